/** Promises 10 to 13: leaders, vetting, permits, teaching. */
public final class LeadersTest {
    public static void main(String[] args) {
        leader();
        vet();
        vetRefuses();
        permit();
        teach();
        Check.finish("LeadersTest");
    }

    private static void leader() {
        Badgewood x = new Badgewood();
        for (int number = 0; number < 8; number++) {
            Check.due("10: numbers", x.leader(), number);
        }
        Check.refuses("10: eight", Check.STATE, () -> x.leader());
        Check.due("10: the last is there", x.teach(7, 1), 0);
        Check.refuses("10: no ninth", Check.INDEX, () -> x.teach(8, 1));
    }

    /** Whether the only leader is vetted today shows in what they may attest. */
    private static boolean mayAttest(Badgewood x, int skill) {
        try {
            x.prove(0, skill, 0);
            return true;
        } catch (IllegalStateException e) {
            return false;
        }
    }

    private static void vet() {
        Badgewood x = new Badgewood();
        x.child(8);
        x.leader();
        x.teach(0, 65535);
        Check.due("11: at first not at all", mayAttest(x, 0), false);
        x.vet(0, 2, 1, 3);
        Check.due("11: ahead of the first day", mayAttest(x, 0), false);
        x.pass(1);
        Check.due("11: the first day counts", mayAttest(x, 0), true);
        x.pass(2);
        Check.due("11: the last day counts", mayAttest(x, 1), true);
        x.pass(1);
        Check.due("11: behind the last day", mayAttest(x, 2), false);
        x.vet(0, 0, 4, 4);
        Check.due("11: another land", mayAttest(x, 2), true);
        x.vet(0, 0, 9, 9);
        Check.due("11: in place of what was told", mayAttest(x, 3), false);
        x.vet(0, 1, 0, 9999);
        Check.due("11: all days", mayAttest(x, 3), true);
        x.vet(0, 1, 0, 0);
        Check.due("11: the first day alone", mayAttest(x, 4), false);
    }

    private static void vetRefuses() {
        Badgewood x = new Badgewood();
        x.child(8);
        x.leader();
        x.teach(0, 1);
        x.vet(0, 0, 0, 0);
        Check.refuses("11: no leader", Check.INDEX, () -> x.vet(1, 0, 0, 0));
        Check.refuses("11: below the leaders", Check.INDEX, () -> x.vet(-1, 0, 0, 0));
        Check.refuses("11: no land", Check.INDEX, () -> x.vet(0, 3, 0, 0));
        Check.refuses("11: below the lands", Check.INDEX, () -> x.vet(0, -1, 0, 0));
        Check.refuses("11: from below", Check.ARGUMENT, () -> x.vet(0, 0, -1, 5));
        Check.refuses("11: from above", Check.ARGUMENT, () -> x.vet(0, 0, 10000, 10000));
        Check.refuses("11: to below from", Check.ARGUMENT, () -> x.vet(0, 0, 5, 4));
        Check.refuses("11: to above", Check.ARGUMENT, () -> x.vet(0, 0, 5, 10000));
        Check.refuses("11: numbers first", Check.INDEX, () -> x.vet(0, 3, 5, 4));
        Check.due("11: nothing was changed", mayAttest(x, 0), true);
    }

    private static void permit() {
        Badgewood x = new Badgewood();
        x.leader();
        x.leader();
        Check.refuses("12: no leader", Check.INDEX, () -> x.permit(2, 0, 0));
        Check.refuses("12: below the leaders", Check.INDEX, () -> x.permit(-1, 1, 0));
        Check.refuses("12: HALL", Check.ARGUMENT, () -> x.permit(0, Badgewood.HALL, 5));
        Check.refuses("12: no kind", Check.ARGUMENT, () -> x.permit(0, 4, 5));
        Check.refuses("12: till below", Check.ARGUMENT, () -> x.permit(0, 1, -2));
        Check.refuses("12: till above", Check.ARGUMENT, () -> x.permit(0, 1, 10000));
        for (int kind = 1; kind < 4; kind++) {
            Check.due("12: none at first", x.permit(0, kind, 10 * kind), -1);
        }
        for (int kind = 1; kind < 4; kind++) {
            Check.due("12: each kind its own", x.permit(0, kind, 9999), 10 * kind);
        }
        Check.due("12: each leader their own", x.permit(1, 1, 0), -1);
        Check.due("12: the last day", x.permit(0, 1, Badgewood.NONE), 9999);
        Check.due("12: none again", x.permit(0, 1, 3), -1);
        Check.due("12: the first day", x.permit(1, 1, 3), 0);
    }

    private static void teach() {
        Badgewood x = new Badgewood();
        x.child(8);
        x.leader();
        x.leader();
        x.vet(0, 0, 0, 9);
        Check.refuses("13: no leader", Check.INDEX, () -> x.teach(2, -1));
        Check.refuses("13: below", Check.ARGUMENT, () -> x.teach(0, -1));
        Check.refuses("13: above", Check.ARGUMENT, () -> x.teach(0, 65536));
        Check.due("13: empty at first", x.teach(0, 65535), 0);
        Check.due("13: the one before", x.teach(0, 6), 65535);
        Check.due("13: each their own", x.teach(1, 1), 0);
        Check.due("13: does not teach 0", mayAttest(x, 0), false);
        Check.due("13: teaches 1", mayAttest(x, 1), true);
        Check.due("13: empties", x.teach(0, 0), 6);
        Check.due("13: teaches 2 no more", mayAttest(x, 2), false);
    }
}
