/** The calls of the face by numbers, so that a test may make any run of them. */
final class Calls {
    static final String[] NAMES = {
        "troop", "child", "join", "leave", "patrol", "duty", "pass", "season", "leader", "vet", "permit", "teach",
        "edition", "begin", "prove", "event", "staff", "why", "couldStaff", "boxes", "pay", "owed", "today", "ofChild",
        "ofTroop", "earned", "holds", "lacks",
    };
    /** How many arguments each takes; a boolean is 1 or 0. */
    static final int[] ARGUMENTS = {
        3, 1, 2, 1, 2, 2, 1, 0, 0, 4, 3, 2, 7, 2, 3, 6, 3, 1, 3, 2, 2, 1, 0, 2, 2, 2, 2, 2,
    };

    private Calls() {
    }

    /** The answer, or the name of what is thrown. */
    static String answer(Badgewood x, int call, int[] a) {
        try {
            return String.valueOf(call < 14 ? early(x, call, a) : late(x, call, a));
        } catch (RuntimeException e) {
            return e.getClass().getName();
        }
    }

    static String written(int call, int[] a) {
        StringBuilder text = new StringBuilder(NAMES[call]).append('(');
        for (int i = 0; i < ARGUMENTS[call]; i++) {
            text.append(i == 0 ? "" : ", ").append(a[i]);
        }
        return text.append(')').toString();
    }

    static long early(Badgewood x, int call, int[] a) {
        switch (call) {
            case 0: return x.troop(a[0], a[1], a[2]);
            case 1: return x.child(a[0]);
            case 2: return x.join(a[0], a[1]);
            case 3: return x.leave(a[0]);
            case 4: return x.patrol(a[0], a[1]);
            case 5: return x.duty(a[0], a[1]);
            case 6: return x.pass(a[0]);
            case 7: return x.season();
            case 8: return x.leader();
            case 9:
                x.vet(a[0], a[1], a[2], a[3]);
                return 0;
            case 10: return x.permit(a[0], a[1], a[2]);
            case 11: return x.teach(a[0], a[1]);
            case 12: return x.edition(a[0], a[1], a[2], a[3], a[4], a[5], a[6]);
            default: return x.begin(a[0], a[1]);
        }
    }

    static long late(Badgewood x, int call, int[] a) {
        switch (call) {
            case 14: return x.prove(a[0], a[1], a[2]);
            case 15: return x.event(a[0], a[1], a[2], a[3], a[4], a[5]);
            case 16: return x.staff(a[0], a[1], a[2] != 0);
            case 17: return x.why(a[0]);
            case 18: return x.couldStaff(a[0], a[1], a[2]) ? 1 : 0;
            case 19: return x.boxes(a[0], a[1]);
            case 20: return x.pay(a[0], a[1]);
            case 21: return x.owed(a[0]);
            case 22: return x.today();
            case 23: return x.ofChild(a[0], a[1]);
            case 24: return x.ofTroop(a[0], a[1] != 0);
            case 25: return x.earned(a[0], a[1]);
            case 26: return x.holds(a[0], a[1]) ? 1 : 0;
            default: return x.lacks(a[0], a[1]);
        }
    }
}
