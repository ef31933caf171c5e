/** Tests of the bounds of a number: at each bound, just beyond it, and far beyond it. */
final class Edges {
    static final int MIN = Integer.MIN_VALUE;
    static final int MAX = Integer.MAX_VALUE;

    static final Class<IndexOutOfBoundsException> INDEX = IndexOutOfBoundsException.class;
    static final Class<IllegalArgumentException> ARGUMENT = IllegalArgumentException.class;
    static final Class<IllegalStateException> STATE = IllegalStateException.class;
    static final Class<UnsupportedOperationException> UNSUPPORTED = UnsupportedOperationException.class;
    static final Class<ArithmeticException> ARITHMETIC = ArithmeticException.class;
    static final Class<java.util.NoSuchElementException> MISSING = java.util.NoSuchElementException.class;

    /** A call with a number, or what is told of that number afterwards. */
    interface With {
        int of(UnitCommitment x, int value);
    }

    private Edges() {
    }

    /** The number goes from least to most; after the call the planner tells it. */
    static void range(String name, int least, int most, Class<? extends RuntimeException> kind, With call, With told) {
        range(Sample.SAMPLE, name, least, most, kind, call, told);
    }

    static void range(Sample.Maker maker, String name, int least, int most, Class<? extends RuntimeException> kind,
            With call, With told) {
        Check.test(name + ": " + least + " is taken, " + (least - 1) + " is refused", () -> {
            taken(maker, least, call, told);
            taken(maker, Math.min(least + 1, most), call, told);
            Sample.refuses(maker, kind, x -> call.of(x, least - 1));
        });
        Check.test(name + ": " + most + " is taken, " + (most + 1) + " is refused", () -> {
            taken(maker, most, call, told);
            taken(maker, Math.max(least, most - 1), call, told);
            Sample.refuses(maker, kind, x -> call.of(x, most + 1));
        });
        Check.test(name + ": a number far out of range is refused", () -> {
            for (int far : new int[] {MIN, MIN + 1, -65536, 65536 + most, MAX - 1, MAX}) {
                Sample.refuses(maker, kind, x -> call.of(x, far));
            }
        });
    }

    private static void taken(Sample.Maker maker, int value, With call, With told) {
        UnitCommitment x = maker.make();
        call.of(x, value);
        Check.same("told of " + value, value, told.of(x, value));
    }

    /** A question with a number from least to most is answered; it, and those that are refused, change nothing. */
    static void asked(String name, int least, int most, Class<? extends RuntimeException> kind, With question) {
        range(Sample.SAMPLE, name, least, most, kind, question, (x, value) -> value);
        Check.test(name + ": the answers change nothing", () -> Sample.leaves(Sample.SAMPLE, x -> {
            for (int value = least; value <= most; value++) {
                question.of(x, value);
            }
        }));
    }

    /** A planner with one bus, and units with the costs 5, the least output 0 and no ramp to speak of. */
    static UnitCommitment planner(int hours, int... greatest) {
        UnitCommitment x = new UnitCommitment();
        x.size(hours, 1);
        for (int most : greatest) {
            x.addUnit(0, 0, most, 500, 5);
        }
        return x;
    }

    static void demands(UnitCommitment x, int... demands) {
        for (int hour = 0; hour < demands.length; hour++) {
            x.setDemand(0, hour, demands[hour]);
        }
    }

    interface Question {
        int of(int what);
    }

    /** The answers for 0, 1 and so on. */
    static void row(Question question, int... due) {
        for (int what = 0; what < due.length; what++) {
            Check.same("number " + what, due[what], question.of(what));
        }
    }
}
