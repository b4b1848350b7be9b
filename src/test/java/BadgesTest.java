/** Promises 14 to 16 and 27 to 29: editions, beginning, proving, what is earned, held and lacking. */
public final class BadgesTest {
    private static final int NONE = Badgewood.NONE;

    public static void main(String[] args) {
        edition();
        editionRefusesSets();
        editionRefusesNumbers();
        begin();
        beginsByTheLatest();
        proveRefuses();
        proveCounts();
        earnedOnTheDayOfTheLastProof();
        earnedOnTheDayItIsBegun();
        soManyOfTheOtherSet();
        theBadgeBefore();
        aChainOfGaps();
        theBadgeBeforeIsBegunLater();
        holds();
        lacks();
        askingRefuses();
        Check.finish("BadgesTest");
    }

    /** A child, and a leader who teaches all and is always vetted. */
    private static Badgewood readied() {
        Badgewood x = new Badgewood();
        x.child(8);
        x.leader();
        x.teach(0, 65535);
        x.vet(0, 0, 0, 9999);
        return x;
    }

    private static void edition() {
        Badgewood x = new Badgewood();
        for (int number = 0; number < 3; number++) {
            Check.due("14: numbers", x.edition(3, 1, 6, 2, 2, 400, 4000), number);
        }
        Check.refuses("14: three", Check.STATE, () -> x.edition(3, 1, 6, 2, 2, 400, 4000));
        Check.refuses("14: arguments first", Check.ARGUMENT, () -> x.edition(3, 1, 1, 0, NONE, 0, 0));
        Check.due("14: another badge", x.edition(7, 0, 0, 0, 6, 0, 0), 0);
        Check.due("14: all skills", x.edition(0, 65535, 0, 0, NONE, 0, 0), 0);
        Check.due("14: all to choose from", x.edition(0, 0, 65535, 16, NONE, 0, 0), 1);
    }

    private static void editionRefusesSets() {
        Badgewood x = new Badgewood();
        Check.refuses("14: must below", Check.ARGUMENT, () -> x.edition(0, -1, 0, 0, NONE, 0, 0));
        Check.refuses("14: must above", Check.ARGUMENT, () -> x.edition(0, 65536, 0, 0, NONE, 0, 0));
        Check.refuses("14: choice below", Check.ARGUMENT, () -> x.edition(0, 0, -1, 0, NONE, 0, 0));
        Check.refuses("14: choice lowest", Check.ARGUMENT,
                () -> x.edition(0, 0, Integer.MIN_VALUE, 0, NONE, 0, 0));
        Check.refuses("14: choice above", Check.ARGUMENT, () -> x.edition(0, 0, 65536, 0, NONE, 0, 0));
        Check.refuses("14: one in common", Check.ARGUMENT, () -> x.edition(0, 3, 6, 1, NONE, 0, 0));
        Check.refuses("14: many below", Check.ARGUMENT, () -> x.edition(0, 0, 7, -1, NONE, 0, 0));
        Check.refuses("14: many above", Check.ARGUMENT, () -> x.edition(0, 0, 7, 4, NONE, 0, 0));
        Check.refuses("14: many of none", Check.ARGUMENT, () -> x.edition(0, 1, 0, 1, NONE, 0, 0));
        Check.due("14: nothing was added", x.edition(0, 0, 7, 3, NONE, 0, 0), 0);
    }

    private static void editionRefusesNumbers() {
        Badgewood x = new Badgewood();
        Check.refuses("14: no badge", Check.INDEX, () -> x.edition(8, 0, 0, 0, NONE, 0, 0));
        Check.refuses("14: below the badges", Check.INDEX, () -> x.edition(-1, 0, 0, 0, NONE, 0, 0));
        Check.refuses("14: numbers first", Check.INDEX, () -> x.edition(8, -1, 0, 0, NONE, 0, 0));
        Check.refuses("14: before is itself", Check.ARGUMENT, () -> x.edition(4, 0, 0, 0, 4, 0, 0));
        Check.refuses("14: before is higher", Check.ARGUMENT, () -> x.edition(4, 0, 0, 0, 5, 0, 0));
        Check.refuses("14: before is no badge", Check.ARGUMENT, () -> x.edition(4, 0, 0, 0, 8, 0, 0));
        Check.refuses("14: before below", Check.ARGUMENT, () -> x.edition(4, 0, 0, 0, -2, 0, 0));
        Check.refuses("14: gap below", Check.ARGUMENT, () -> x.edition(4, 0, 0, 0, 3, -1, 0));
        Check.refuses("14: gap above", Check.ARGUMENT, () -> x.edition(4, 0, 0, 0, 3, 401, 0));
        Check.refuses("14: lasts below", Check.ARGUMENT, () -> x.edition(4, 0, 0, 0, 3, 0, -1));
        Check.refuses("14: lasts above", Check.ARGUMENT, () -> x.edition(4, 0, 0, 0, 3, 0, 4001));
        Check.due("14: any gap without before", x.edition(4, 0, 0, 0, NONE, -7, 0), 0);
        Check.due("14: any gap at all", x.edition(4, 0, 0, 0, NONE, Integer.MAX_VALUE, 4000), 1);
        x.child(8);
        x.begin(0, 4);
        Check.due("14: where it does not matter", x.earned(0, 4), 0);
    }

    private static void begin() {
        Badgewood x = new Badgewood();
        x.child(8);
        x.child(8);
        x.edition(7, 0, 0, 0, NONE, 0, 0);
        Check.refuses("15: no child", Check.INDEX, () -> x.begin(2, 7));
        Check.refuses("15: below the children", Check.INDEX, () -> x.begin(-1, 7));
        Check.refuses("15: no badge", Check.INDEX, () -> x.begin(0, 8));
        Check.refuses("15: below the badges", Check.INDEX, () -> x.begin(0, -1));
        Check.refuses("15: no edition", Check.STATE, () -> x.begin(0, 6));
        Check.due("15: the edition", x.begin(0, 7), 0);
        Check.refuses("15: once", Check.STATE, () -> x.begin(0, 7));
        x.edition(7, 1, 0, 0, NONE, 0, 0);
        Check.refuses("15: nor a later edition", Check.STATE, () -> x.begin(0, 7));
        Check.due("15: the latest of then", x.begin(1, 7), 1);
    }

    private static void beginsByTheLatest() {
        Badgewood x = readied();
        x.child(9);
        x.edition(0, 1, 0, 0, NONE, 0, 3);
        x.begin(0, 0);
        x.edition(0, 6, 0, 0, NONE, 0, 9);
        x.edition(0, 12, 0, 0, NONE, 0, 1);
        Check.due("15: the third edition", x.begin(1, 0), 2);
        Check.due("15: the first stays as it was", x.lacks(0, 0), 1);
        Check.due("15: the third asks for others", x.lacks(1, 0), 12);
        Check.due("15: earned by the first", x.prove(0, 0, 0), 1);
        x.pass(2);
        Check.due("15: lasts by the first", x.holds(0, 0), true);
        x.pass(1);
        Check.due("15: no longer than that", x.holds(0, 0), false);
    }

    private static void proveRefuses() {
        Badgewood x = readied();
        x.leader();
        x.teach(1, 1);
        x.leader();
        x.vet(2, 0, 0, 9999);
        Check.refuses("16: no child", Check.INDEX, () -> x.prove(1, 0, 0));
        Check.refuses("16: no skill", Check.INDEX, () -> x.prove(0, 16, 0));
        Check.refuses("16: below the skills", Check.INDEX, () -> x.prove(0, -1, 0));
        Check.refuses("16: no leader", Check.INDEX, () -> x.prove(0, 0, 3));
        Check.refuses("16: below the leaders", Check.INDEX, () -> x.prove(0, 0, -1));
        Check.refuses("16: not vetted", Check.STATE, () -> x.prove(0, 0, 1));
        Check.refuses("16: does not teach", Check.STATE, () -> x.prove(0, 0, 2));
        Check.due("16: proven", x.prove(0, 15, 0), 0);
        Check.refuses("16: once", Check.STATE, () -> x.prove(0, 15, 0));
        x.vet(1, 2, 0, 0);
        Check.due("16: vetted for the last land", x.prove(0, 0, 1), 0);
        x.pass(1);
        Check.refuses("16: vetted yesterday", Check.STATE, () -> x.prove(0, 1, 1));
        for (int skill = 1; skill < 15; skill++) {
            Check.due("16: all skills", x.prove(0, skill, 0), 0);
        }
    }

    private static void proveCounts() {
        Badgewood x = readied();
        x.child(8);
        x.edition(0, 3, 0, 0, NONE, 0, 0);
        x.edition(1, 2, 0, 0, NONE, 0, 1);
        x.edition(2, 0, 6, 1, 1, 1, 0);
        x.edition(3, 2, 0, 0, NONE, 0, 0);
        x.begin(0, 0);
        x.begin(0, 1);
        x.begin(0, 2);
        Check.due("16: none yet", x.prove(0, 0, 0), 0);
        Check.due("16: two at once, one to come, one not begun", x.prove(0, 1, 0), 2);
        Check.due("25: so many", x.ofChild(0, 4), 2);
        x.pass(1);
        Check.due("25: also behind its days, with the one by a gap", x.ofChild(0, 4), 3);
        Check.due("16: counts by now", x.prove(0, 5, 0), 3);
        Check.due("16: of the child alone", x.prove(1, 1, 0), 0);
    }

    private static void earnedOnTheDayOfTheLastProof() {
        Badgewood x = readied();
        x.edition(0, 0x8001, 0, 0, NONE, 0, 0);
        x.begin(0, 0);
        x.pass(4);
        x.prove(0, 15, 0);
        x.pass(3);
        Check.due("27: one is lacking", x.earned(0, 0), -1);
        x.prove(0, 0, 0);
        Check.due("27: that day", x.earned(0, 0), 7);
        x.pass(10);
        x.prove(0, 1, 0);
        Check.due("27: for ever", x.earned(0, 0), 7);
    }

    private static void earnedOnTheDayItIsBegun() {
        Badgewood x = readied();
        x.edition(5, 2, 0, 0, NONE, 0, 0);
        x.prove(0, 1, 0);
        Check.due("27: not begun", x.earned(0, 5), -1);
        x.pass(6);
        x.begin(0, 5);
        Check.due("27: what was proven ahead counts", x.earned(0, 5), 6);
        x.edition(6, 0, 0, 0, NONE, 0, 0);
        x.begin(0, 6);
        Check.due("27: nothing is asked", x.earned(0, 6), 6);
        Check.due("25: both count", x.ofChild(0, 4), 2);
    }

    private static void soManyOfTheOtherSet() {
        Badgewood x = readied();
        x.edition(0, 1, 0xF0, 2, NONE, 0, 0);
        x.edition(1, 0, 0xF0, 0, NONE, 0, 0);
        x.edition(2, 0, 0xF0, 4, NONE, 0, 0);
        x.begin(0, 0);
        x.begin(0, 1);
        x.begin(0, 2);
        Check.due("27: none of the other set", x.earned(0, 1), 0);
        x.pass(1);
        x.prove(0, 7, 0);
        x.prove(0, 0, 0);
        x.prove(0, 8, 0);
        Check.due("27: one is too few", x.earned(0, 0), -1);
        x.pass(1);
        x.prove(0, 4, 0);
        Check.due("27: two are enough", x.earned(0, 0), 2);
        x.pass(1);
        x.prove(0, 5, 0);
        Check.due("27: the third changes nothing", x.earned(0, 0), 2);
        Check.due("27: three of four", x.earned(0, 2), -1);
        x.pass(1);
        x.prove(0, 6, 0);
        Check.due("27: all four", x.earned(0, 2), 4);
    }

    private static void theBadgeBefore() {
        Badgewood x = readied();
        x.edition(2, 1, 0, 0, NONE, 0, 2);
        x.edition(4, 2, 0, 0, 2, 10, 3);
        x.edition(5, 0, 0, 0, 2, 0, 0);
        x.begin(0, 4);
        x.begin(0, 2);
        x.begin(0, 5);
        x.prove(0, 1, 0);
        Check.due("27: the other one is not earned", x.earned(0, 4), -1);
        x.pass(5);
        Check.due("16: it, and the one without a gap", x.prove(0, 0, 0), 2);
        Check.due("27: no gap", x.earned(0, 5), 5);
        x.pass(9);
        Check.due("27: within the gap", x.earned(0, 4), -1);
        Check.due("28: within the gap", x.holds(0, 4), false);
        Check.due("28: the other is held no more", x.holds(0, 2), false);
        x.pass(1);
        Check.due("27: behind the gap, though the other is held no more", x.earned(0, 4), 15);
        Check.due("28: that day", x.holds(0, 4), true);
        x.pass(2);
        Check.due("28: the last day", x.holds(0, 4), true);
        x.pass(1);
        Check.due("28: from the day it was earned on", x.holds(0, 4), false);
    }

    private static void aChainOfGaps() {
        Badgewood x = readied();
        x.edition(0, 0, 0, 0, NONE, 0, 0);
        for (int badge = 1; badge < 8; badge++) {
            x.edition(badge, 0, 0, 0, badge - 1, badge, 0);
        }
        for (int badge = 7; badge >= 0; badge--) {
            x.begin(0, badge);
        }
        int day = 0;
        for (int badge = 1; badge < 8; badge++) {
            x.pass(badge - 1 == 0 ? 1 : badge);
            day += badge;
            Check.due("27: gap behind gap", x.earned(0, badge), day);
            Check.due("25: so many by then", x.ofChild(0, 4), badge + 1);
        }
    }

    private static void theBadgeBeforeIsBegunLater() {
        Badgewood x = readied();
        x.edition(0, 1, 0, 0, NONE, 0, 0);
        x.edition(1, 2, 0, 0, 0, 3, 0);
        x.prove(0, 0, 0);
        x.prove(0, 1, 0);
        x.begin(0, 1);
        x.pass(20);
        Check.due("27: the other was not begun", x.earned(0, 1), -1);
        x.begin(0, 0);
        Check.due("27: earned as it is begun", x.earned(0, 0), 20);
        Check.due("27: not yet", x.earned(0, 1), -1);
        x.pass(3);
        Check.due("27: counted from that", x.earned(0, 1), 23);
    }

    private static void holds() {
        Badgewood x = readied();
        x.edition(0, 0, 0, 0, NONE, 0, 1);
        x.edition(1, 0, 0, 0, NONE, 0, 0);
        x.edition(2, 0, 0, 0, NONE, 0, 4000);
        x.edition(3, 1, 0, 0, NONE, 0, 0);
        for (int badge = 0; badge < 4; badge++) {
            Check.due("28: not begun", x.holds(0, badge), false);
            x.begin(0, badge);
        }
        Check.due("28: not earned", x.holds(0, 3), false);
        Check.due("28: one day", x.holds(0, 0), true);
        x.pass(1);
        Check.due("28: no second day", x.holds(0, 0), false);
        Check.due("27: earned for ever", x.earned(0, 0), 0);
        for (int i = 0; i < 9; i++) {
            x.pass(400);
        }
        x.pass(398);
        Check.due("28: the day 3999", x.holds(0, 2), true);
        x.pass(1);
        Check.due("28: the day 4000", x.holds(0, 2), false);
        Check.due("28: for ever", x.holds(0, 1), true);
    }

    private static void lacks() {
        Badgewood x = readied();
        x.edition(0, 0x8003, 0x70, 2, NONE, 0, 0);
        Check.refuses("29: not begun", Check.STATE, () -> x.lacks(0, 0));
        x.prove(0, 1, 0);
        x.begin(0, 0);
        Check.due("29: without what was proven ahead", x.lacks(0, 0), 0x8001);
        x.prove(0, 15, 0);
        x.prove(0, 4, 0);
        x.prove(0, 9, 0);
        Check.due("29: one is left", x.lacks(0, 0), 1);
        x.prove(0, 0, 0);
        Check.due("29: none, though the other set is wanting", x.lacks(0, 0), 0);
        Check.due("27: the other set is wanting", x.earned(0, 0), -1);
    }

    private static void askingRefuses() {
        Badgewood x = readied();
        x.edition(0, 1, 0, 0, NONE, 0, 0);
        int[] wrong = {-1, 8, Integer.MIN_VALUE, Integer.MAX_VALUE};
        for (int bad : wrong) {
            Check.refuses("27: no child", Check.INDEX, () -> x.earned(bad, 0));
            Check.refuses("27: no badge", Check.INDEX, () -> x.earned(0, bad));
            Check.refuses("28: no child", Check.INDEX, () -> x.holds(bad, 0));
            Check.refuses("28: no badge", Check.INDEX, () -> x.holds(0, bad));
            Check.refuses("29: no child", Check.INDEX, () -> x.lacks(bad, 0));
            Check.refuses("29: no badge", Check.INDEX, () -> x.lacks(0, bad));
        }
        Check.due("27: the last badge", x.earned(0, 7), -1);
        Check.refuses("29: the last badge", Check.STATE, () -> x.lacks(0, 7));
    }
}
