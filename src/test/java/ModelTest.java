import java.util.Map;
import java.util.TreeMap;

/** Long runs of calls, each answer beside that of the model. */
public final class ModelTest {
    private static final int RUNS = 1500;
    private static final int CALLS = 512;
    private static final int READYING = 107;
    /** Many events are planned for this day and the next, so that some fall together. */
    private static final int CAMP = 200;
    /** How often each call is made, in the order of Calls.NAMES. */
    private static final int[] WEIGHTS = {
        3, 8, 14, 6, 6, 5, 6, 3, 4, 8, 6, 5, 6, 14, 16, 8, 16, 10, 24, 10, 12, 4, 1, 14, 6, 8, 8, 12,
    };

    private static final int[] made = new int[28];
    private static final Map<String, Integer> kinds = new TreeMap<>();

    public static void main(String[] args) {
        for (int run = 0; run < RUNS; run++) {
            compare(run);
        }
        for (int call = 0; call < made.length; call++) {
            Check.due(Calls.NAMES[call] + " is answered often", made[call] > 500, true);
        }
        Check.due("all five verdicts come up", kinds.toString(), "{0=1, 1=1, 2=1, 3=1, 4=1}");
        Check.finish("ModelTest");
    }

    private static void compare(int run) {
        Dice dice = new Dice(run);
        Badgewood x = new Badgewood();
        Model model = new Model();
        StringBuilder told = new StringBuilder();
        for (int n = 0; n < CALLS; n++) {
            boolean isReadied = run % 2 == 0 && n < READYING;
            int call = isReadied ? readyingCall(n) : early(n, dice) ? dice.below(2) : chosen(dice);
            int[] a = isReadied ? readying(dice, n) : arguments(dice, call, x.today());
            String want = model.answer(call, a);
            String got = Calls.answer(x, call, a);
            note(call, got);
            if (!got.equals(want)) {
                Check.due("run " + run + told + " " + Calls.written(call, a), got, want);
                return;
            }
            told.append(' ').append(Calls.written(call, a));
        }
        Check.due("run " + run, true, true);
    }

    private static boolean early(int n, Dice dice) {
        return n < 40 && dice.oneIn(2);
    }

    /** Half of the runs begin with full troops and leaders who may do much, so that the later calls do more. */
    private static int readyingCall(int n) {
        return n < 3 ? 0 : n < 27 ? 1 : n < 51 ? 2 : n < 59 ? 8 : n < 75 ? 9 : n < 83 ? 11 : n < 99 ? 10 : 15;
    }

    private static int[] readying(Dice dice, int n) {
        switch (readyingCall(n)) {
            case 0: return new int[] {5, 20 - n, dice.from(4, 12)};
            case 1: return new int[] {dice.from(5, 12)};
            case 2: return new int[] {n - 27, dice.below(3)};
            case 9: return new int[] {n % 8, dice.below(2), 0, 9999};
            case 11: return new int[] {n % 8, 0xFFFF & ~set(dice)};
            case 10: return new int[] {n % 8, dice.from(1, 3), 9999};
            case 15: {
                int hour = dice.from(8, 18);
                return new int[] {n % 3, dice.below(2), dice.below(4), CAMP + dice.below(2), hour, dice.from(1, 4)};
            }
            default: return new int[0];
        }
    }

    private static void note(int call, String answer) {
        if (!answer.startsWith("java")) {
            made[call]++;
            if (call == 17) {
                kinds.put(answer, 1);
            }
        }
    }

    private static int chosen(Dice dice) {
        int sum = 0;
        for (int weight : WEIGHTS) {
            sum += weight;
        }
        int at = dice.below(sum);
        int call = 0;
        while (at >= WEIGHTS[call]) {
            at -= WEIGHTS[call];
            call++;
        }
        return call;
    }

    /** Mostly within the ranges, few days and hours so that much falls together, at times one off an edge. */
    private static int[] arguments(Dice dice, int call, int today) {
        int[] a = plain(dice, call, today);
        if (a.length > 0 && dice.oneIn(25)) {
            int[] wild = {-1, -2, 24, 100, 401, 4001, 9999, 10000, 65535, 65536, 21, 13, 8, 6, 3};
            a[dice.below(a.length)] = wild[dice.below(wild.length)];
        }
        return a;
    }

    private static int set(Dice dice) {
        return dice.below(65536) & dice.below(65536) & (dice.oneIn(2) ? 0xFF : 0xFFFF);
    }

    private static int[] plain(Dice dice, int call, int today) {
        int child = dice.oneIn(3) ? dice.below(4) : dice.below(24);
        int leader = dice.below(8);
        int troop = dice.below(3);
        int soon = today <= CAMP && dice.below(4) > 0 ? CAMP + dice.below(2) : Math.min(9999, today + dice.below(4));
        switch (call) {
            case 0: {
                int from = dice.from(5, 14);
                return new int[] {from, Math.min(20, from + dice.below(9)), dice.from(1, 12)};
            }
            case 1: return new int[] {dice.from(5, 13)};
            case 2: return new int[] {child, dice.below(5)};
            case 3: return new int[] {child};
            case 4: return new int[] {child, dice.below(4)};
            case 5: return new int[] {troop, dice.below(10000)};
            case 6: return new int[] {dice.oneIn(9) ? dice.from(1, 400) : dice.from(1, 3)};
            case 9: {
                int from = Math.max(0, today - dice.below(20));
                return new int[] {leader, dice.below(3), from, Math.min(9999, from + dice.below(400))};
            }
            case 10: {
                int till = dice.oneIn(6) ? -1 : Math.min(9999, today + dice.below(90));
                return new int[] {leader, dice.from(1, 3), till};
            }
            case 11: return new int[] {leader, 0xFFFF & ~set(dice)};
            case 12: return edition(dice);
            case 14: return new int[] {child, dice.below(16), leader};
            case 15: {
                int hour = dice.from(8, 20);
                int hours = dice.from(1, Math.min(4, 24 - hour));
                return new int[] {troop, dice.below(2), dice.below(4), soon, hour, hours};
            }
            case 16: return new int[] {dice.below(20), leader, dice.oneIn(4) ? 0 : 1};
            case 17: return new int[] {dice.below(20)};
            case 18: return new int[] {soon, dice.from(8, 20), dice.oneIn(2) ? 255 >> dice.below(5) : dice.below(256)};
            case 19: return new int[] {child, dice.oneIn(2) ? 99 : dice.from(1, 99)};
            case 20: return new int[] {child, dice.oneIn(3) ? dice.from(1, 396) : dice.from(1, 60)};
            case 21: return new int[] {dice.below(6)};
            case 23: return new int[] {child, dice.below(6)};
            case 24: return new int[] {troop, dice.below(2)};
            case 13: case 25: case 26: case 27: return new int[] {child, dice.below(8)};
            default: return new int[0];
        }
    }

    private static int[] edition(Dice dice) {
        int badge = dice.below(8);
        int must = set(dice) & set(dice);
        int choice = set(dice) & ~must;
        int many = Math.min(dice.below(4), Integer.bitCount(choice));
        int before = dice.oneIn(2) ? -1 : dice.from(-1, badge - 1);
        return new int[] {badge, must, choice, many, before, dice.below(20), dice.oneIn(2) ? 0 : dice.from(1, 30)};
    }
}
