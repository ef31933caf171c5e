import java.util.regex.Matcher;
import java.util.regex.Pattern;

/** Promises 16 to 18, at their bounds: the input buffer, texts of plans and the error position. */
final class TextEdgesTest {
    public static void main(String[] args) {
        codes();
        full();
        rows();
        digits();
        unknown();
        malformed();
        emptied();
        positions();
        longTexts();
        everyText();
        kept();
        Check.finish();
    }

    private static UnitCommitment planner(int hours, int units) {
        int[] greatest = new int[units];
        java.util.Arrays.fill(greatest, 9);
        return Edges.planner(hours, greatest);
    }

    private static int read(UnitCommitment x, String text) {
        Sample.type(x, text);
        return x.readPlan();
    }

    private static void codes() {
        Check.test("promise 16: the code 32 is taken, 31 is refused", () -> {
            Check.same(4, Sample.make().append((char) 32));
            Sample.refuses(Edges.ARGUMENT, x -> x.append((char) 31));
        });
        Check.test("promise 16: the code 126 is taken, 127 is refused", () -> {
            Check.same(4, Sample.make().append((char) 126));
            Sample.refuses(Edges.ARGUMENT, x -> x.append((char) 127));
        });
        Check.test("promise 16: codes far out of range, also those with a low byte in it, are refused", () -> {
            for (int code : new int[] {0, 1, 128, 255, 256 + 48, 512 + 61, 32768 + 49, 65535}) {
                Sample.refuses(Edges.ARGUMENT, x -> x.append((char) code));
            }
        });
        Check.test("promise 16: each code from 32 to 126 is taken", () -> {
            UnitCommitment x = new UnitCommitment();
            for (int code = 32; code <= 126; code++) {
                Check.same(code - 31, x.append((char) code));
            }
        });
    }

    private static UnitCommitment typed(int count) {
        UnitCommitment x = Edges.planner(1, 9);
        Sample.type(x, "0=1;".repeat(25).substring(0, count));
        return x;
    }

    private static void full() {
        Check.test("promise 16: the buffer takes a first and a 100th character, and returns their number", () -> {
            Check.same(1, typed(0).append('0'));
            Check.same(2, typed(1).append('0'));
            Check.same(99, typed(98).append('0'));
            Check.same(100, typed(99).append('0'));
        });
        Check.test("promise 16: a 101st character is refused", () -> {
            Sample.refuses(Sample.FULL, Edges.STATE, x -> x.append('0'));
            Sample.refuses(Sample.FULL, Edges.STATE, x -> x.append((char) 126));
            Sample.refuses(Sample.FULL, Edges.STATE, x -> x.append((char) 32));
        });
        Check.test("promise 16: a wrong code comes before a full buffer", () -> {
            Sample.refuses(Sample.FULL, Edges.ARGUMENT, x -> x.append((char) 31));
            Sample.refuses(Sample.FULL, Edges.ARGUMENT, x -> x.append((char) 127));
        });
        Check.test("promise 16: a full buffer that is read takes 100 characters again", () -> {
            UnitCommitment x = Sample.FULL.make();
            Check.fails(Edges.ARGUMENT, x::readPlan);
            for (int count = 1; count <= 100; count++) {
                Check.same(count, x.append(' '));
            }
            Check.fails(Edges.STATE, () -> x.append(' '));
        });
    }

    private static void rows() {
        Check.test("promise 17: a text has one row or more, none is malformed", () -> {
            UnitCommitment x = planner(2, 2);
            Check.fails(Edges.ARGUMENT, x::readPlan);
            Check.same(0, x.errorPosition());
            Check.same(1, read(x, "1=01"));
            Check.same(2, read(x, "1=01;0=10"));
        });
        Check.test("promise 17: in 99 characters there are as many rows as the buffer can hold", () -> {
            int[][] most = {{1, 25}, {2, 20}, {7, 10}, {17, 5}, {22, 4}, {24, 3}, {23, 3}};
            for (int[] one : most) {
                String row = "0=" + "1".repeat(one[0]);
                UnitCommitment x = planner(one[0], 1);
                Check.same(one[1], read(x, (row + ";").repeat(one[1] - 1) + row));
                Check.same((1 << one[0]) - 1, x.unit(0, 13));
            }
        });
        Check.test("promise 17: the latest of several rows for a unit stays, other units keep theirs", () -> {
            UnitCommitment x = planner(3, 6);
            x.commit(4, 0, 2, true);
            Check.same(5, read(x, "0=111;5=101;0=100;5=010;0=001"));
            Check.same(4, x.unit(0, 13));
            Check.same(2, x.unit(5, 13));
            Check.same(7, x.unit(4, 13));
            for (int unit = 1; unit <= 3; unit++) {
                Check.same(0, x.unit(unit, 13));
            }
        });
        Check.test("promise 17: a row sets and clears each hour of its unit", () -> {
            UnitCommitment x = planner(24, 1);
            x.commit(0, 0, 23, true);
            read(x, "0=100000000000000000000001");
            Check.same(0x800001, x.unit(0, 13));
            read(x, "0=" + "0".repeat(24));
            Check.same(0, x.unit(0, 13));
            read(x, "0=" + "1".repeat(24));
            Check.same(0xffffff, x.unit(0, 13));
        });
        Check.test("promise 17: the hours are those at the time of the reading", () -> {
            UnitCommitment x = planner(3, 1);
            Sample.type(x, "0=11");
            x.size(2, 1);
            x.addUnit(0, 0, 9, 9, 9);
            Check.same(1, x.readPlan());
            Sample.type(x, "0=11");
            x.size(3, 1);
            x.addUnit(0, 0, 9, 9, 9);
            Check.fails(Edges.ARGUMENT, x::readPlan);
        });
    }

    private static void digits() {
        Check.test("promise 17: as many digits as hours are read, one less or more is malformed", () -> {
            for (int hours = 1; hours <= 24; hours++) {
                UnitCommitment x = planner(hours, 1);
                String fewer = "0=" + "1".repeat(hours - 1);
                Check.fails(Edges.ARGUMENT, () -> read(x, fewer));
                Check.same(hours + 1, x.errorPosition());
                Check.same(1, read(x, fewer + "1"));
                Check.fails(Edges.ARGUMENT, () -> read(x, fewer + "11"));
                Check.same(hours + 2, x.errorPosition());
            }
        });
        Check.test("promise 17: the digits 0 and 1 are read, '/' and '2' are malformed", () -> {
            Check.same(1, read(planner(1, 1), "0=0"));
            Check.same(1, read(planner(1, 1), "0=1"));
            Check.fails(Edges.ARGUMENT, () -> read(planner(1, 1), "0=/"));
            Check.fails(Edges.ARGUMENT, () -> read(planner(1, 1), "0=2"));
        });
        Check.test("promise 17: the units 0 to 5 are read, '/' and '6' are malformed", () -> {
            for (int unit = 0; unit <= 5; unit++) {
                UnitCommitment x = planner(1, 6);
                Check.same(1, read(x, unit + "=1"));
                Check.same(1, x.unit(unit, 13));
            }
            Check.fails(Edges.ARGUMENT, () -> read(planner(1, 6), "/=1"));
            Check.fails(Edges.ARGUMENT, () -> read(planner(1, 6), "6=1"));
        });
        Check.test("promise 17: '=' and ';' are read, the characters beside them are malformed", () -> {
            Check.same(2, read(planner(1, 1), "0=1;0=0"));
            for (String text : new String[] {"0<1", "0>1", "0;1", "0=1:0=0", "0=1<0=0", "0=1=0=0"}) {
                Check.fails(Edges.ARGUMENT, () -> read(planner(1, 1), text));
            }
        });
    }

    private static void unknown() {
        Check.test("promise 17: the last unit that there is can be read, the next one is refused", () -> {
            for (int units = 1; units <= 5; units++) {
                UnitCommitment x = planner(1, units);
                Check.same(1, read(x, (char) ('0' + units - 1) + "=1"));
                int next = units;
                Check.fails(Edges.UNSUPPORTED, () -> read(x, (char) ('0' + next) + "=1"));
            }
            Check.fails(Edges.UNSUPPORTED, () -> read(planner(1, 0), "0=1"));
        });
        Check.test("promise 17: with a unit that is not there nothing changes, in whichever row it is", () -> {
            for (String text : new String[] {"2=111", "0=111;1=101;2=111", "2=111;0=000", "0=000;5=111;1=000"}) {
                UnitCommitment x = planner(3, 2);
                x.commit(0, 0, 1, true);
                x.commit(1, 2, 2, true);
                Check.fails(Edges.UNSUPPORTED, () -> read(x, text));
                Check.same(3, x.unit(0, 13));
                Check.same(4, x.unit(1, 13));
                Check.same(3, x.undo());
            }
        });
        Check.test("promise 17: what is malformed comes before a unit that is not there", () -> {
            for (String text : new String[] {"5=11", "5=111;", "5=111;0=11", "6=111", "5=1111", "5=112"}) {
                Check.fails(Edges.ARGUMENT, () -> read(planner(3, 2), text));
            }
        });
        Check.test("promise 17: a unit that is not there sets no error position", () -> {
            UnitCommitment x = planner(1, 1);
            Check.fails(Edges.UNSUPPORTED, () -> read(x, "1=1"));
            Check.fails(Edges.MISSING, x::errorPosition);
        });
    }

    private static void malformed() {
        Check.test("promise 17: a malformed text changes no plan and is no change", () -> {
            for (String text : new String[] {"", "0=000;", "0=000;1=00", "1=0000", "0=000;;1=000", ";0=000", "0=00 "}) {
                UnitCommitment x = planner(3, 2);
                x.commit(0, 0, 1, true);
                x.commit(1, 2, 2, true);
                Check.fails(Edges.ARGUMENT, () -> read(x, text));
                Check.same(3, x.unit(0, 13));
                Check.same(4, x.unit(1, 13));
                Check.same(3, x.undo());
                Check.same(0, x.unit(1, 13));
            }
        });
        Check.test("promise 17: all but the buffer and the error position is as before a refused reading", () -> {
            String before = Sample.told(Sample.make());
            UnitCommitment malformed = Sample.make();
            Check.fails(Edges.ARGUMENT, malformed::readPlan);
            Check.same(before, Sample.told(malformed));
            UnitCommitment unknown = Sample.make();
            Sample.type(unknown, "11;3=000");
            Check.fails(Edges.UNSUPPORTED, unknown::readPlan);
            Check.same(before, Sample.told(unknown));
            Check.same(0, unknown.errorPosition());
        });
    }

    private static void emptied() {
        Check.test("promise 17: the buffer is empty after a reading", () -> {
            UnitCommitment x = planner(1, 1);
            read(x, "0=1");
            Check.same(1, x.append('0'));
        });
        Check.test("promise 17: the buffer is empty after a malformed text", () -> {
            UnitCommitment x = planner(1, 1);
            Check.fails(Edges.ARGUMENT, () -> read(x, "0=1;"));
            Check.same(1, x.append('0'));
        });
        Check.test("promise 17: the buffer is empty after a unit that is not there", () -> {
            UnitCommitment x = planner(1, 1);
            Check.fails(Edges.UNSUPPORTED, () -> read(x, "1=1"));
            Check.same(1, x.append('0'));
        });
        Check.test("promise 17: nothing of a longer text stays behind a shorter one", () -> {
            UnitCommitment x = planner(1, 1);
            read(x, "0=1;0=1");
            Check.same(1, read(x, "0=0"));
            Check.fails(Edges.ARGUMENT, () -> read(x, "0="));
            Check.same(2, x.errorPosition());
        });
    }

    /** The error position of a text in a planner with 3 hours. */
    private static void position(int due, String text) {
        UnitCommitment x = planner(3, 1);
        Check.fails(Edges.ARGUMENT, () -> read(x, text));
        Check.same("error position of '" + text + "'", due, x.errorPosition());
    }

    private static void positions() {
        Check.test("promise 18: without a malformed text there is no error position", () -> {
            Sample.refuses(Sample.FRESH, Edges.MISSING, x -> x.errorPosition());
            UnitCommitment x = planner(3, 1);
            read(x, "0=111");
            Check.fails(Edges.MISSING, x::errorPosition);
        });
        Check.test("promise 18: asking for it changes nothing", () -> {
            Sample.leaves(Sample.SAMPLE, x -> Check.same(0, x.errorPosition()));
        });
        Check.test("promise 18: of a text that is cut off it is the length", () -> {
            String text = "0=101;5=010;";
            for (int length = 0; length <= text.length(); length++) {
                if (length != 5 && length != 11) {
                    position(length, text.substring(0, length));
                }
            }
        });
        Check.test("promise 18: it is the index of the wrong character, at each place of a row", () -> {
            String text = "0=101;5=010;2=111";
            for (int at = 0; at < text.length(); at++) {
                position(at, text.substring(0, at) + "x" + text.substring(at + 1));
                position(at, text.substring(0, at) + "x");
            }
        });
        Check.test("promise 18: of several wrong characters it is the lowest index", () -> {
            position(0, "xxxxx");
            position(2, "0=x0x");
            position(3, "0=1;1=111");
            position(5, "0=111 ;");
        });
        Check.test("promise 18: a digit or a row too much, and what is between two rows", () -> {
            position(5, "0=1010");
            position(6, "0=101;;");
            position(5, "0=101,0=101");
            position(6, "0=101; 0=101");
            position(0, " 0=101");
            position(5, "0=101 ");
        });
        Check.test("promise 18: a unit that is not there is no error position, but a unit 6 is", () -> {
            position(6, "5=101;6=101");
            position(12, "5=101;4=101;");
        });
    }

    private static void longTexts() {
        Check.test("promise 18: a wrong last character of a full buffer, and a full one that is cut off", () -> {
            UnitCommitment x = planner(1, 1);
            Check.fails(Edges.ARGUMENT, () -> read(x, "0=1;".repeat(24) + "0=1x"));
            Check.same(99, x.errorPosition());
            Check.fails(Edges.ARGUMENT, () -> read(x, "0=1;".repeat(24) + "0=2;"));
            Check.same(98, x.errorPosition());
            Check.fails(Edges.ARGUMENT, () -> read(x, "0=1;".repeat(25)));
            Check.same(100, x.errorPosition());
            UnitCommitment day = planner(24, 1);
            Check.fails(Edges.ARGUMENT, () -> read(day, ("0=" + "1".repeat(24) + ";").repeat(4).substring(0, 100)));
            Check.same(100, day.errorPosition());
        });
    }

    /** Each text of up to six of the characters, compared with a pattern and what it could still match. */
    private static void everyText() {
        Check.test("promises 17, 18: each short text for 1 and 2 hours", () -> {
            for (int hours = 1; hours <= 2; hours++) {
                String row = "[0-5]=[01]{" + hours + "}";
                Pattern pattern = Pattern.compile(row + "(;" + row + ")*");
                tryAll(hours, pattern, "");
            }
        });
    }

    private static void tryAll(int hours, Pattern pattern, String text) {
        UnitCommitment x = planner(hours, 6);
        if (pattern.matcher(text).matches()) {
            Check.same((text.length() + 1) / (hours + 3), read(x, text));
            Check.fails(Edges.MISSING, x::errorPosition);
        } else {
            Check.fails(Edges.ARGUMENT, () -> read(x, text));
            Check.same("'" + text + "'", deadEnd(pattern, text), x.errorPosition());
        }
        for (char next : "05=1;".toCharArray()) {
            if (text.length() < 6) {
                tryAll(hours, pattern, text + next);
            }
        }
    }

    private static int deadEnd(Pattern pattern, String text) {
        for (int length = 1; length <= text.length(); length++) {
            Matcher matcher = pattern.matcher(text.substring(0, length));
            if (!matcher.matches() && !matcher.hitEnd()) {
                return length - 1;
            }
        }
        return text.length();
    }

    private static UnitCommitment wrongOnce() {
        UnitCommitment x = planner(3, 1);
        x.snapshot();
        x.commit(0, 0, 0, true);
        Check.fails(Edges.ARGUMENT, () -> read(x, "0=1x1"));
        return x;
    }

    private static void kept() {
        Check.test("promise 18: it is of the last malformed text", () -> {
            UnitCommitment x = wrongOnce();
            Check.same(3, x.errorPosition());
            Check.same(3, x.errorPosition());
            Check.fails(Edges.ARGUMENT, () -> read(x, "0=11"));
            Check.same(4, x.errorPosition());
            Check.fails(Edges.ARGUMENT, x::readPlan);
            Check.same(0, x.errorPosition());
        });
        Check.test("promise 18: it stays after a text that is read, and one with a unit that is not there", () -> {
            UnitCommitment x = wrongOnce();
            read(x, "0=111");
            Check.same(3, x.errorPosition());
            Check.fails(Edges.UNSUPPORTED, () -> read(x, "1=111"));
            Check.same(3, x.errorPosition());
        });
        Check.test("promise 18: it stays after append, undo, restore, size and what is refused", () -> {
            UnitCommitment x = wrongOnce();
            x.append('0');
            x.undo();
            Check.same(3, x.errorPosition());
            x.restore();
            Check.same(3, x.errorPosition());
            x.size(1, 1);
            Check.same(3, x.errorPosition());
            Check.fails(Edges.ARGUMENT, () -> x.append((char) 31));
            Check.fails(Edges.STATE, x::undo);
            Check.same(3, x.errorPosition());
        });
    }
}
