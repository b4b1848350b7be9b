/** Promises 17 to 20: events, their leaders, how they are, and whether they could be staffed. */
public final class EventsTest {
    private static final int HALL = Badgewood.HALL;
    private static final int WATER = Badgewood.WATER;
    private static final int ROPES = Badgewood.ROPES;
    private static final int FIRE = Badgewood.FIRE;

    public static void main(String[] args) {
        event();
        eventRefuses();
        staff();
        staffOverlaps();
        whyTooFew();
        whyNotVetted();
        whyNoPermit();
        whyAlone();
        whyByTheChildrenNow();
        couldStaffRefuses();
        couldStaffHours();
        couldStaffShares();
        couldStaffOneChild();
        couldStaffPermits();
        couldStaffNobodyElse();
        Check.finish("EventsTest");
    }

    /** Troop 0 with so many children, and so many leaders who are vetted for land 0 on all days. */
    private static Badgewood readied(int children, int leaders) {
        Badgewood x = new Badgewood();
        x.troop(5, 20, 12);
        fill(x, 0, children);
        for (int i = 0; i < leaders; i++) {
            x.leader();
            x.vet(i, 0, 0, 9999);
        }
        return x;
    }

    private static void fill(Badgewood x, int troop, int children) {
        for (int i = 0; i < children; i++) {
            x.join(x.child(9), troop);
        }
    }

    private static void event() {
        Badgewood x = readied(0, 0);
        Check.due("17: the least", x.event(0, 0, HALL, 0, 0, 1), 0);
        Check.due("17: the greatest", x.event(0, 2, FIRE, 9999, 23, 1), 1);
        Check.due("17: a whole day", x.event(0, 1, WATER, 5, 0, 24), 2);
        x.pass(5);
        Check.due("17: today", x.event(0, 1, ROPES, 5, 22, 2), 3);
        Check.refuses("17: yesterday", Check.ARGUMENT, () -> x.event(0, 1, ROPES, 4, 22, 2));
        for (int number = 4; number < 20; number++) {
            Check.due("17: numbers", x.event(0, 0, HALL, 9, 9, 1), number);
        }
        Check.refuses("17: twenty", Check.STATE, () -> x.event(0, 0, HALL, 9, 9, 1));
        Check.refuses("17: arguments first", Check.ARGUMENT, () -> x.event(0, 0, HALL, 9, 9, 0));
        Check.due("17: the last is there", x.why(19), 0);
        Check.refuses("17: no more", Check.INDEX, () -> x.why(20));
    }

    private static void eventRefuses() {
        Badgewood x = readied(0, 0);
        Check.refuses("17: no troop", Check.INDEX, () -> x.event(1, 0, HALL, 0, 0, 1));
        Check.refuses("17: below the troops", Check.INDEX, () -> x.event(-1, 0, HALL, 0, 0, 1));
        Check.refuses("17: no land", Check.INDEX, () -> x.event(0, 3, HALL, 0, 0, 1));
        Check.refuses("17: below the lands", Check.INDEX, () -> x.event(0, -1, HALL, 0, 0, 1));
        Check.refuses("17: numbers first", Check.INDEX, () -> x.event(0, 3, 9, -1, -1, -1));
        Check.refuses("17: kind below", Check.ARGUMENT, () -> x.event(0, 0, -1, 0, 0, 1));
        Check.refuses("17: kind above", Check.ARGUMENT, () -> x.event(0, 0, 4, 0, 0, 1));
        Check.refuses("17: day below", Check.ARGUMENT, () -> x.event(0, 0, HALL, -1, 0, 1));
        Check.refuses("17: day above", Check.ARGUMENT, () -> x.event(0, 0, HALL, 10000, 0, 1));
        Check.refuses("17: hour below", Check.ARGUMENT, () -> x.event(0, 0, HALL, 0, -1, 1));
        Check.refuses("17: hour above", Check.ARGUMENT, () -> x.event(0, 0, HALL, 0, 24, 1));
        Check.refuses("17: no hours", Check.ARGUMENT, () -> x.event(0, 0, HALL, 0, 0, 0));
        Check.refuses("17: beyond the day", Check.ARGUMENT, () -> x.event(0, 0, HALL, 0, 0, 25));
        Check.refuses("17: beyond midnight", Check.ARGUMENT, () -> x.event(0, 0, HALL, 0, 20, 5));
        Check.refuses("17: far beyond", Check.ARGUMENT, () -> x.event(0, 0, HALL, 0, 20, Integer.MAX_VALUE));
        Check.due("17: nothing was planned", x.event(0, 0, HALL, 0, 20, 4), 0);
    }

    private static void staff() {
        Badgewood x = readied(0, 8);
        x.event(0, 0, HALL, 3, 9, 2);
        Check.refuses("18: no event", Check.INDEX, () -> x.staff(1, 0, true));
        Check.refuses("18: below the events", Check.INDEX, () -> x.staff(-1, 0, false));
        Check.refuses("18: no leader", Check.INDEX, () -> x.staff(0, 8, true));
        Check.refuses("18: below the leaders", Check.INDEX, () -> x.staff(0, -1, false));
        Check.due("18: one", x.staff(0, 7, true), 1);
        Check.due("18: again", x.staff(0, 7, true), 1);
        Check.due("18: two", x.staff(0, 0, true), 2);
        Check.due("18: who was not there", x.staff(0, 3, false), 2);
        Check.due("18: one goes", x.staff(0, 7, false), 1);
        Check.due("18: the other goes", x.staff(0, 0, false), 0);
        for (int leader = 0; leader < 8; leader++) {
            Check.due("18: all", x.staff(0, leader, true), leader + 1);
        }
    }

    private static void staffOverlaps() {
        Badgewood x = readied(0, 2);
        x.event(0, 0, HALL, 3, 9, 2);
        x.event(0, 0, HALL, 3, 10, 2);
        x.event(0, 0, HALL, 3, 11, 1);
        x.event(0, 0, HALL, 4, 9, 2);
        x.event(0, 0, HALL, 3, 8, 1);
        x.event(0, 0, HALL, 3, 0, 24);
        x.event(0, 0, HALL, 3, 9, 2);
        x.staff(0, 0, true);
        Check.refuses("18: one hour in common", Check.STATE, () -> x.staff(1, 0, true));
        Check.refuses("18: the same hours", Check.STATE, () -> x.staff(6, 0, true));
        Check.refuses("18: within the other", Check.STATE, () -> x.staff(5, 0, true));
        Check.due("18: to be there no more is no matter", x.staff(1, 0, false), 0);
        Check.due("18: straight behind", x.staff(2, 0, true), 1);
        Check.due("18: straight ahead", x.staff(4, 0, true), 1);
        Check.due("18: another day", x.staff(3, 0, true), 1);
        Check.due("18: another leader", x.staff(1, 1, true), 1);
        Check.refuses("18: in the other order", Check.STATE, () -> x.staff(0, 1, true));
        Check.refuses("18: at its end", Check.STATE, () -> x.staff(2, 1, true));
        Check.due("18: what is so already", x.staff(0, 0, true), 1);
        x.staff(0, 0, false);
        x.staff(2, 0, false);
        Check.due("18: free again", x.staff(1, 0, true), 2);
    }

    private static void whyTooFew() {
        int[] kinds = {HALL, WATER, ROPES, FIRE};
        int[] enough = {8, 4, 3, 6};
        for (int kind : kinds) {
            Badgewood x = readied(enough[kind], 3);
            if (kind != HALL) {
                x.permit(0, kind, 9999);
            }
            x.event(0, 0, kind, 3, 9, 2);
            Check.due("19: none for some children", x.why(0), Badgewood.TOO_FEW);
            x.staff(0, 0, true);
            Check.due("19: one is enough", x.why(0), Badgewood.LAWFUL);
            fill(x, 0, 1);
            Check.due("19: not for one more", x.why(0), Badgewood.TOO_FEW);
            x.staff(0, 1, true);
            Check.due("19: two are", x.why(0), Badgewood.LAWFUL);
            fill(x, 0, Math.min(enough[kind] - 1, 12 - enough[kind] - 1));
            Check.due("19: for twice as many", x.why(0), Badgewood.LAWFUL);
        }
        Badgewood x = readied(7, 3);
        x.permit(2, ROPES, 3);
        x.event(0, 0, ROPES, 3, 9, 2);
        x.staff(0, 0, true);
        x.staff(0, 1, true);
        Check.due("19: two are not for seven", x.why(0), Badgewood.TOO_FEW);
        x.staff(0, 2, true);
        Check.due("19: three are", x.why(0), Badgewood.LAWFUL);
        Check.refuses("19: no event", Check.INDEX, () -> x.why(1));
        Check.refuses("19: below the events", Check.INDEX, () -> x.why(-1));
    }

    private static void whyNotVetted() {
        Badgewood x = readied(2, 3);
        x.event(0, 1, HALL, 10, 9, 2);
        x.staff(0, 0, true);
        Check.due("19: for another land", x.why(0), Badgewood.NOT_VETTED);
        x.vet(0, 1, 10, 10);
        Check.due("19: for it on its day", x.why(0), Badgewood.LAWFUL);
        x.pass(20);
        Check.due("19: its day counts, not today", x.why(0), Badgewood.LAWFUL);
        x.staff(0, 2, true);
        Check.due("19: some of them", x.why(0), Badgewood.NOT_VETTED);
        x.vet(2, 1, 11, 99);
        Check.due("19: a day late", x.why(0), Badgewood.NOT_VETTED);
        x.vet(2, 1, 0, 9);
        Check.due("19: a day early", x.why(0), Badgewood.NOT_VETTED);
        x.vet(2, 1, 0, 10);
        Check.due("19: all of them", x.why(0), Badgewood.LAWFUL);
        fill(x, 0, 10);
        x.staff(0, 2, false);
        x.vet(0, 1, 0, 0);
        Check.due("19: too few goes first", x.why(0), Badgewood.TOO_FEW);
    }

    private static void whyNoPermit() {
        Badgewood x = readied(2, 2);
        x.event(0, 0, FIRE, 10, 9, 2);
        x.staff(0, 0, true);
        Check.due("19: none at all", x.why(0), Badgewood.NO_PERMIT);
        x.permit(0, WATER, 9999);
        Check.due("19: for another kind", x.why(0), Badgewood.NO_PERMIT);
        x.permit(1, FIRE, 9999);
        Check.due("19: who is not there", x.why(0), Badgewood.NO_PERMIT);
        x.staff(0, 1, true);
        Check.due("19: one of them is enough", x.why(0), Badgewood.LAWFUL);
        x.permit(1, FIRE, 9);
        Check.due("19: till the day ahead", x.why(0), Badgewood.NO_PERMIT);
        x.permit(1, FIRE, 10);
        Check.due("19: till that day", x.why(0), Badgewood.LAWFUL);
        x.permit(1, FIRE, Badgewood.NONE);
        Check.due("19: taken back", x.why(0), Badgewood.NO_PERMIT);
        x.vet(0, 0, 0, 0);
        Check.due("19: not vetted goes first", x.why(0), Badgewood.NOT_VETTED);
    }

    private static void whyAlone() {
        Badgewood x = readied(1, 2);
        x.event(0, 0, HALL, 10, 9, 2);
        x.event(0, 0, WATER, 11, 9, 2);
        x.staff(0, 0, true);
        x.staff(1, 0, true);
        Check.due("19: one with one", x.why(0), Badgewood.ALONE);
        Check.due("19: no permit goes first", x.why(1), Badgewood.NO_PERMIT);
        x.permit(0, WATER, 11);
        Check.due("19: also with a permit", x.why(1), Badgewood.ALONE);
        x.staff(0, 1, true);
        Check.due("19: two with one", x.why(0), Badgewood.LAWFUL);
        fill(x, 0, 1);
        Check.due("19: one with two", x.why(1), Badgewood.LAWFUL);
    }

    private static void whyByTheChildrenNow() {
        Badgewood x = readied(0, 1);
        x.event(0, 2, ROPES, 10, 9, 2);
        Check.due("19: no children", x.why(0), Badgewood.LAWFUL);
        x.staff(0, 0, true);
        Check.due("19: no children, whoever leads", x.why(0), Badgewood.LAWFUL);
        x.troop(5, 20, 1);
        fill(x, 1, 2);
        Check.due("19: the children of another troop", x.why(0), Badgewood.LAWFUL);
        fill(x, 0, 4);
        Check.due("19: four children", x.why(0), Badgewood.TOO_FEW);
        x.leave(2);
        Check.due("19: one has left", x.why(0), Badgewood.NOT_VETTED);
        x.event(1, 0, HALL, 12, 9, 2);
        x.staff(1, 0, true);
        Check.due("19: who waits does not count", x.why(1), Badgewood.ALONE);
    }

    private static void couldStaffRefuses() {
        Badgewood x = readied(1, 2);
        for (int i = 0; i < 4; i++) {
            x.event(0, 0, HALL, 3, 9 + i, 4);
        }
        Check.refuses("20: day below", Check.ARGUMENT, () -> x.couldStaff(-1, 9, 0));
        Check.refuses("20: day above", Check.ARGUMENT, () -> x.couldStaff(10000, 9, 0));
        Check.refuses("20: hour below", Check.ARGUMENT, () -> x.couldStaff(3, -1, 0));
        Check.refuses("20: hour above", Check.ARGUMENT, () -> x.couldStaff(3, 24, 0));
        Check.refuses("20: them below", Check.ARGUMENT, () -> x.couldStaff(3, 9, -1));
        Check.refuses("20: them lowest", Check.ARGUMENT, () -> x.couldStaff(3, 9, Integer.MIN_VALUE));
        Check.refuses("20: no such leader", Check.ARGUMENT, () -> x.couldStaff(3, 9, 4));
        Check.refuses("20: four events", Check.STATE, () -> x.couldStaff(3, 12, 3));
        Check.refuses("20: arguments first", Check.ARGUMENT, () -> x.couldStaff(3, 12, 4));
        Check.due("20: three events", x.couldStaff(3, 11, 3), false);
        Check.due("20: three of the later ones", x.couldStaff(3, 13, 3), false);
        Badgewood none = new Badgewood();
        Check.refuses("20: there are no leaders", Check.ARGUMENT, () -> none.couldStaff(3, 12, 1));
        Check.due("20: nothing goes on", none.couldStaff(9999, 23, 0), true);
        Badgewood all = readied(0, 8);
        Check.due("20: all eight", all.couldStaff(0, 0, 255), true);
        Check.refuses("20: no ninth", Check.ARGUMENT, () -> all.couldStaff(0, 0, 256));
        Badgewood empty = readied(0, 0);
        for (int i = 0; i < 4; i++) {
            empty.event(0, 0, HALL, 3, 9, 1);
        }
        Check.refuses("20: four without children", Check.STATE, () -> empty.couldStaff(3, 9, 0));
    }

    private static void couldStaffHours() {
        Badgewood x = readied(2, 1);
        x.event(0, 0, HALL, 3, 9, 2);
        Check.due("20: ahead of it", x.couldStaff(3, 8, 0), true);
        Check.due("20: its first hour", x.couldStaff(3, 9, 0), false);
        Check.due("20: its last hour", x.couldStaff(3, 10, 0), false);
        Check.due("20: behind it", x.couldStaff(3, 11, 0), true);
        Check.due("20: the day ahead", x.couldStaff(2, 9, 0), true);
        Check.due("20: the day behind", x.couldStaff(4, 9, 0), true);
        Check.due("20: with one", x.couldStaff(3, 10, 1), true);
        x.pass(50);
        Check.due("20: a day gone by", x.couldStaff(3, 10, 1), true);
    }

    private static void couldStaffShares() {
        Badgewood x = readied(9, 5);
        x.troop(5, 20, 12);
        x.troop(5, 20, 12);
        fill(x, 1, 2);
        x.event(0, 0, HALL, 3, 9, 2);
        x.event(1, 0, HALL, 3, 9, 2);
        x.event(2, 0, HALL, 3, 9, 2);
        Check.due("20: two and one and none", x.couldStaff(3, 9, 7), true);
        Check.due("20: each at one only", x.couldStaff(3, 9, 3), false);
        fill(x, 2, 12);
        Check.due("20: two and one and two", x.couldStaff(3, 9, 31), true);
        Check.due("20: one too few", x.couldStaff(3, 9, 30), false);
        x.vet(4, 0, 5, 9);
        Check.due("20: one is not vetted", x.couldStaff(3, 9, 31), false);
        x.vet(4, 1, 3, 3);
        Check.due("20: for another land", x.couldStaff(3, 9, 31), false);
    }

    private static void couldStaffOneChild() {
        Badgewood x = readied(1, 3);
        x.event(0, 0, HALL, 3, 9, 2);
        Check.due("20: nobody", x.couldStaff(3, 9, 0), false);
        Check.due("20: alone", x.couldStaff(3, 9, 1), false);
        Check.due("20: two with one", x.couldStaff(3, 9, 5), true);
        Check.due("20: three with one", x.couldStaff(3, 9, 7), true);
    }

    private static void couldStaffPermits() {
        Badgewood x = readied(3, 4);
        x.troop(5, 20, 12);
        fill(x, 1, 3);
        x.event(0, 0, WATER, 3, 9, 2);
        x.event(1, 0, ROPES, 3, 9, 2);
        Check.due("20: no permits", x.couldStaff(3, 9, 15), false);
        x.permit(0, WATER, 9);
        x.permit(0, ROPES, 9);
        Check.due("20: both with the same one", x.couldStaff(3, 9, 15), false);
        x.permit(3, WATER, 2);
        Check.due("20: till too early a day", x.couldStaff(3, 9, 15), false);
        x.permit(3, WATER, 3);
        Check.due("20: the first has to give way", x.couldStaff(3, 9, 15), true);
        Check.due("20: the two alone", x.couldStaff(3, 9, 9), true);
        Check.due("20: without the one", x.couldStaff(3, 9, 14), false);
        x.vet(3, 0, 4, 9);
        Check.due("20: a permit without vetting", x.couldStaff(3, 9, 15), false);
    }

    private static void couldStaffNobodyElse() {
        Badgewood x = readied(2, 2);
        x.event(0, 0, HALL, 3, 9, 2);
        x.event(0, 0, HALL, 3, 10, 2);
        x.staff(0, 0, true);
        Check.due("20: who is told for it does not count", x.couldStaff(3, 9, 0), false);
        Check.due("20: who is told for another may", x.couldStaff(3, 11, 1), true);
        Check.due("20: both", x.couldStaff(3, 10, 3), true);
        Check.due("20: one of both", x.couldStaff(3, 10, 2), false);
        Check.due("20: nothing is told by that", x.staff(1, 1, true), 1);
    }
}
