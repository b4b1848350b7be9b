/** Any arguments in any state: only what the document names is thrown, by the class itself, and changes nothing. */
public final class WildTest {
    private static final int RUNS = 300;
    private static final int CALLS = 512;
    private static final int[] EDGES = {
        Integer.MIN_VALUE, Integer.MIN_VALUE + 1, -65536, -400, -2, -1, 0, 1, 2, 3, 4, 5, 6, 7, 8, 9, 12, 13, 15, 16,
        17, 18, 19, 20, 21, 23, 24, 25, 99, 100, 255, 256, 396, 397, 400, 401, 4000, 4001, 9999, 10000, 65535, 65536,
        Integer.MAX_VALUE - 1, Integer.MAX_VALUE,
    };
    /** What the document lets each call throw: I an index, A an argument, S the state. */
    private static final String[] MAY_THROW = {
        "AS", "AS", "IS", "IS", "IAS", "IA", "AS", "", "S", "IA", "IA", "IA", "IAS", "IS", "IS", "IAS", "IS", "I",
        "AS", "IAS", "IAS", "I", "", "IA", "I", "I", "I", "IS",
    };

    public static void main(String[] args) {
        for (int run = 0; run < RUNS; run++) {
            wildRun(run);
        }
        longUse();
        Check.finish("WildTest");
    }

    private static void wildRun(int run) {
        Dice dice = new Dice(1000 + run);
        Badgewood x = new Badgewood();
        for (int n = 0; n < CALLS; n++) {
            int call = dice.below(28);
            int[] a = new int[7];
            for (int i = 0; i < 7; i++) {
                a[i] = dice.oneIn(3) ? EDGES[dice.below(EDGES.length)] : dice.below(10);
            }
            String before = n % 64 == 0 ? asked(x) : null;
            if (refuses(x, call, a) && before != null) {
                Check.due("run " + run + ": " + Calls.written(call, a) + " changes nothing", asked(x), before);
            }
        }
    }

    /** Whether the call throws; and if so, it must be an exception that it may throw, by a throw of its own. */
    private static boolean refuses(Badgewood x, int call, int[] a) {
        try {
            if (call < 14) {
                Calls.early(x, call, a);
            } else {
                Calls.late(x, call, a);
            }
            return false;
        } catch (RuntimeException e) {
            String kind = e.getClass() == IndexOutOfBoundsException.class ? "I"
                    : e.getClass() == IllegalArgumentException.class ? "A"
                    : e.getClass() == IllegalStateException.class ? "S" : "?";
            boolean isDue = MAY_THROW[call].contains(kind) && e.getStackTrace()[0].getClassName().equals("Badgewood");
            if (!isDue) {
                Check.due(Calls.written(call, a) + " throws " + e, false, true);
            }
            return true;
        }
    }

    /** All that can be asked without changing anything. */
    private static String asked(Badgewood x) {
        StringBuilder text = new StringBuilder();
        text.append(x.today());
        int[] asking = {17, 21, 23, 24, 25, 26, 27};
        for (int call : asking) {
            for (int first = 0; first < 24; first++) {
                for (int second = 0; second < (Calls.ARGUMENTS[call] == 1 ? 1 : 8); second++) {
                    text.append(' ').append(Calls.answer(x, call, new int[] {first, second}));
                }
            }
        }
        return text.toString();
    }

    /** Behind the 512th call the answers are free, but still nothing else may be thrown. */
    private static void longUse() {
        Dice dice = new Dice(7);
        Badgewood x = new Badgewood();
        for (int n = 0; n < 200000; n++) {
            int[] a = new int[7];
            for (int i = 0; i < 7; i++) {
                a[i] = dice.oneIn(9) ? EDGES[dice.below(EDGES.length)] : dice.below(24);
            }
            refuses(x, dice.below(28), a);
        }
        Check.due("24: the day is not above the last", x.today() <= 9999, true);
    }
}
