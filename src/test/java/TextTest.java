/** Promises 16 to 18: the input buffer, texts of plans and the error position. */
final class TextTest {
    public static void main(String[] args) {
        Check.test("promise 16: append takes codes from 32 to 126", TextTest::codes);
        Check.test("promise 16: append takes 100 characters", TextTest::full);
        Check.test("promise 17: readPlan plans the units of its rows", TextTest::read);
        Check.test("promise 17: readPlan refuses units that are not there", TextTest::unknown);
        Check.test("promise 17: readPlan refuses malformed texts", TextTest::malformed);
        Check.test("promise 17: the number of hours rules the length of a row", TextTest::lengths);
        Check.test("promise 18: errorPosition tells where no text can go on", TextTest::positions);
        Check.test("promise 18: errorPosition stays whatever comes after it", TextTest::stays);
        Check.finish();
    }

    private static UnitCommitment planner(int hours, int units) {
        UnitCommitment x = new UnitCommitment();
        x.size(hours, 1);
        for (int unit = 0; unit < units; unit++) {
            x.addUnit(0, 0, 9, 9, 9);
        }
        return x;
    }

    private static int read(UnitCommitment x, String text) {
        Sample.type(x, text);
        return x.readPlan();
    }

    private static void codes() {
        UnitCommitment x = new UnitCommitment();
        Check.same(1, x.append((char) 32));
        Check.same(2, x.append((char) 126));
        for (int code : new int[] {31, 127, 0, 10, 128, 255, 304, 65535}) {
            Check.fails(IllegalArgumentException.class, () -> x.append((char) code));
            Sample.refuses(IllegalArgumentException.class, y -> y.append((char) code));
        }
        Check.same(3, x.append('0'));
        Check.fails(IllegalStateException.class, x::undo);
    }

    private static void full() {
        UnitCommitment x = planner(24, 4);
        for (int i = 1; i <= 100; i++) {
            Check.same(i, x.append('0'));
        }
        Check.fails(IllegalStateException.class, () -> x.append('0'));
        Check.fails(IllegalArgumentException.class, () -> x.append((char) 127));
        Check.fails(IllegalArgumentException.class, x::readPlan);
        Check.same(1, x.errorPosition());
        Check.same(1, x.append('0'));
    }

    private static void read() {
        UnitCommitment x = planner(3, 6);
        x.commit(1, 0, 2, true);
        Check.same(1, read(x, "0=110"));
        Check.same(3, x.unit(0, 13));
        Check.same(7, x.unit(1, 13));
        Check.same(4, read(x, "0=000;5=001;0=100;3=010"));
        Check.same(1, x.unit(0, 13));
        Check.same(4, x.unit(5, 13));
        Check.same(2, x.unit(3, 13));
        Check.same(7, x.unit(1, 13));
        Check.same(1, read(x, "0=100"));
        Check.same(1, x.append('0'));
        Check.same(7, x.undo());
        Check.same(6, x.undo());
        Check.same(3, x.unit(0, 13));
        Check.same(0, x.unit(5, 13));
        Check.same(2, x.append('='));
    }

    private static void unknown() {
        UnitCommitment x = planner(3, 2);
        x.commit(0, 0, 0, true);
        for (String text : new String[] {"2=111", "0=111;2=111", "5=000;0=111", "0=111;1=111;0=000;3=000"}) {
            Check.fails(UnsupportedOperationException.class, () -> read(x, text));
            Check.same(1, x.unit(0, 13));
            Check.same(0, x.unit(1, 13));
            Check.same(1, x.append('1'));
            Check.fails(IllegalArgumentException.class, x::readPlan);
        }
        Check.fails(UnsupportedOperationException.class, () -> read(planner(1, 0), "0=1"));
        Check.same(2, x.undo());
        UnitCommitment y = planner(3, 2);
        Check.fails(UnsupportedOperationException.class, () -> read(y, "2=111"));
        Check.fails(java.util.NoSuchElementException.class, y::errorPosition);
    }

    private static void malformed() {
        UnitCommitment x = planner(3, 2);
        x.commit(0, 0, 0, true);
        for (String text : new String[] {"", "0", "0=11", "0=1111", "0=111;", "0=111;0", "6=111", "0=112", "0:111",
            " 0=111", "0=111 ", "0=111,1=111", ";", "0=111;;1=111", "5=11"}) {
            Check.fails(IllegalArgumentException.class, () -> read(x, text));
            Check.same(1, x.unit(0, 13));
            Check.same(0, x.unit(1, 13));
        }
        Check.same(2, read(x, "0=010;1=001"));
        Check.same(3, x.undo());
        Check.same(1, x.unit(0, 13));
    }

    private static void lengths() {
        UnitCommitment one = planner(1, 1);
        Check.same(2, read(one, "0=0;0=1"));
        Check.same(1, one.unit(0, 13));
        Check.same(25, read(one, "0=0;".repeat(24) + "0=1"));
        UnitCommitment day = planner(24, 6);
        String row = "=100000000000000000000001";
        Check.same(3, read(day, "5" + row + ";0" + row + ";3" + row));
        Check.same(1 | 1 << 23, day.unit(5, 13));
        Check.fails(IllegalArgumentException.class, () -> read(day, ("0" + row + ";").repeat(4).substring(0, 100)));
        Check.same(100, day.errorPosition());
    }

    private static void positions() {
        Object[][] due = {{"", 0}, {"6", 0}, {"0", 1}, {"0=", 2}, {"0=2", 2}, {"0=10", 4}, {"0=1011", 5}, {"0=101;", 6},
            {"0=101;;", 6}, {"0-101", 1}, {" 0=101", 0}, {"0=101;6=101", 6}, {"0=101;5=10", 10}, {"0=101;5=1x1", 9},
            {"0=101;50101", 7}, {"x=x", 0}, {";0=101", 0}, {"0=101 ", 5}, {"/=101", 0}, {"0=1/1", 3}};
        UnitCommitment x = planner(3, 1);
        Check.fails(java.util.NoSuchElementException.class, x::errorPosition);
        for (Object[] pair : due) {
            Check.fails(IllegalArgumentException.class, () -> read(x, (String) pair[0]));
            Check.same((String) pair[0], pair[1], x.errorPosition());
        }
    }

    private static void stays() {
        UnitCommitment x = planner(3, 1);
        x.snapshot();
        Check.fails(IllegalArgumentException.class, () -> read(x, "0=1x1"));
        Check.same(1, read(x, "0=111"));
        Check.same(3, x.errorPosition());
        Check.fails(UnsupportedOperationException.class, () -> read(x, "1=111"));
        Check.same(3, x.errorPosition());
        x.undo();
        Check.same(3, x.errorPosition());
        x.restore();
        Check.same(3, x.errorPosition());
        x.size(5, 1);
        Check.same(3, x.errorPosition());
        Check.fails(IllegalArgumentException.class, x::readPlan);
        Check.same(0, x.errorPosition());
    }
}
