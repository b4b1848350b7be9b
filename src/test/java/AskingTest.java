/** Promises 24 to 26: the day, a child, a troop. */
public final class AskingTest {
    public static void main(String[] args) {
        today();
        ofChild();
        ofTroop();
        Check.finish("AskingTest");
    }

    private static void today() {
        Badgewood x = new Badgewood();
        Check.due("24: at first", x.today(), 0);
        x.pass(7);
        Check.due("24: seven days on", x.today(), 7);
        x.season();
        Check.due("24: a season is no day", x.today(), 7);
    }

    private static void ofChild() {
        Badgewood x = new Badgewood();
        x.child(11);
        Check.refuses("25: no child", Check.INDEX, () -> x.ofChild(1, 6));
        Check.refuses("25: below the children", Check.INDEX, () -> x.ofChild(-1, 0));
        Check.refuses("25: what below", Check.ARGUMENT, () -> x.ofChild(0, -1));
        Check.refuses("25: what above", Check.ARGUMENT, () -> x.ofChild(0, 6));
        tells(x, "a new child", 11, -1, -1, -1, 0, 0);
        x.troop(5, 9, 4);
        x.troop(10, 12, 1);
        x.child(10);
        x.join(1, 1);
        x.join(0, 1);
        tells(x, "waits", 11, -1, 1, -1, 0, 0);
        x.leave(1);
        tells(x, "is in", 11, 1, -1, 0, 0, 0);
        x.patrol(0, 2);
        x.boxes(0, 3);
        x.edition(0, 0, 0, 0, Badgewood.NONE, 0, 1);
        x.begin(0, 0);
        tells(x, "with all", 11, 1, -1, 2, 1, 12);
        x.pass(300);
        x.season();
        tells(x, "a year older", 12, 1, -1, 2, 1, 12);
        x.season();
        tells(x, "too old", 13, -1, -1, -1, 1, 12);
    }

    private static void tells(Badgewood x, String when, int... due) {
        for (int what = 0; what < due.length; what++) {
            Check.due("25: " + when + ", " + what, x.ofChild(0, what), due[what]);
        }
    }

    private static void ofTroop() {
        Badgewood x = new Badgewood();
        x.troop(5, 20, 2);
        x.troop(5, 20, 2);
        Check.refuses("26: no troop", Check.INDEX, () -> x.ofTroop(2, true));
        Check.refuses("26: below the troops", Check.INDEX, () -> x.ofTroop(-1, false));
        for (int i = 0; i < 5; i++) {
            x.join(x.child(9), 1);
        }
        Check.due("26: in", x.ofTroop(1, false), 2);
        Check.due("26: wait", x.ofTroop(1, true), 3);
        Check.due("26: none in the other", x.ofTroop(0, false), 0);
        Check.due("26: none for the other", x.ofTroop(0, true), 0);
        x.leave(4);
        Check.due("26: fewer wait", x.ofTroop(1, true), 2);
        x.leave(0);
        Check.due("26: as many are in", x.ofTroop(1, false), 2);
        Check.due("26: one comes in", x.ofTroop(1, true), 1);
        x.join(0, 1);
        Check.due("26: who left waits too", x.ofTroop(1, true), 2);
    }
}
