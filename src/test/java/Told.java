/** What an object tells, in parts, so that none of them needs more calls than an object is made for. */
final class Told {
    static final int PARTS = 8;

    private static final int JOIN = 2, LEAVE = 3, DUTY = 5, PASS = 6, SEASON = 7, LEADER = 8, PERMIT = 10, TEACH = 11;
    private static final int EDITION = 12, BEGIN = 13, PROVE = 14, EVENT = 15, STAFF = 16, WHY = 17, COULD = 18;
    private static final int BOXES = 19, PAY = 20, OWED = 21, TODAY = 22, OF_CHILD = 23, OF_TROOP = 24, EARNED = 25;
    private static final int HOLDS = 26, LACKS = 27;

    private final Badgewood x;
    private final StringBuilder words = new StringBuilder();

    private Told(Badgewood x) {
        this.x = x;
    }

    static String of(Badgewood x, int part) {
        Told told = new Told(x);
        switch (part) {
            case 0:
                told.children();
                break;
            case 1:
                told.badges();
                break;
            case 2:
                told.troops();
                break;
            case 3:
                told.events();
                break;
            case 4:
                told.leaders();
                break;
            case 5:
                told.skills();
                break;
            case 6:
                told.held();
                break;
            default:
                told.whatComesNext();
                break;
        }
        return told.words.toString();
    }

    private void ask(int call, int... arguments) {
        words.append(' ').append(Calls.answer(x, call, arguments));
    }

    private void children() {
        for (int child = 0; child < 24; child++) {
            for (int what = 0; what < 6; what++) {
                ask(OF_CHILD, child, what);
            }
            for (int badge = 0; badge < 8; badge++) {
                ask(LACKS, child, badge);
            }
        }
    }

    private void badges() {
        for (int child = 0; child < 24; child++) {
            for (int badge = 0; badge < 8; badge++) {
                ask(EARNED, child, badge);
            }
        }
    }

    private void held() {
        for (int child = 0; child < 24; child++) {
            for (int badge = 0; badge < 8; badge++) {
                ask(HOLDS, child, badge);
            }
        }
    }

    /** With who comes in as all leave and join again. */
    private void troops() {
        ask(TODAY);
        for (int troop = 0; troop < 6; troop++) {
            ask(OF_TROOP, troop, 0);
            ask(OF_TROOP, troop, 1);
            ask(OWED, troop);
            for (int day = 0; day < 12; day++) {
                ask(DUTY, troop, day);
            }
        }
        for (int child = 0; child < 24; child++) {
            ask(LEAVE, child);
        }
        for (int child = 0; child < 24; child++) {
            ask(JOIN, child, child % 6);
        }
        ask(SEASON);
    }

    private void events() {
        for (int event = 0; event < 20; event++) {
            for (int leader = 0; leader < 8; leader++) {
                ask(STAFF, event, leader, 0);
            }
            ask(WHY, event);
        }
        for (int day = 0; day < 20; day++) {
            for (int them = 1; them < 256; them *= 2) {
                ask(COULD, day, 9, them);
            }
        }
    }

    private void leaders() {
        for (int leader = 0; leader < 8; leader++) {
            for (int kind = 1; kind < 4; kind++) {
                ask(PERMIT, leader, kind, Badgewood.NONE);
            }
            for (int skill = 0; skill < 16; skill++) {
                ask(PROVE, leader, skill, leader);
            }
            ask(TEACH, leader, 0);
            for (int event = 0; event < 20; event++) {
                ask(STAFF, event, leader, 1);
            }
        }
    }

    private void skills() {
        ask(TEACH, 0, 65535);
        for (int child = 0; child < 12; child++) {
            for (int skill = 0; skill < 16; skill++) {
                ask(PROVE, child, skill, 0);
            }
        }
    }

    private void whatComesNext() {
        for (int child = 0; child < 24; child++) {
            ask(PAY, child, 1);
            ask(BOXES, child, 1);
            ask(BEGIN, child, child % 8);
        }
        for (int badge = 0; badge < 8; badge++) {
            for (int times = 0; times < 4; times++) {
                ask(EDITION, badge, 0, 0, 0, Badgewood.NONE, 0, 0);
            }
        }
        ask(LEADER);
        for (int event = 0; event < 20; event++) {
            ask(EVENT, 0, 0, 0, 9999, 0, 1);
        }
        ask(0, 5, 20, 1);
        ask(1, 9);
        ask(PASS, 1);
    }
}
