/** The sentences about a season: terms, and promise 9. */
final class SeasonSentences {
    private static final int NONE = Badgewood.NONE;

    private SeasonSentences() {
    }

    static void tell(Sentences doc) {
        doc.section("Terms");
        doc.says("With a season, first all children are a year older;", SeasonSentences::allAreOlder);
        doc.says("those whose age a troop is not for leave it, and those who wait for such a one wait no more, and join"
                + " nothing by that;", SeasonSentences::tooOldForIt);
        doc.says("then, by rising troops, those who wait come in, as long as there is room;",
                SeasonSentences::thoseWhoWaitComeIn);
        doc.says("then those who left, by rising numbers, join the lowest troop that is for their age, or wait for it"
                + " if it is full, if there is one.", SeasonSentences::thoseWhoLeftJoin);
        doc.section("Promise 9");
        doc.says("Lets a season come;", () -> {
            Badgewood x = Starts.camp();
            x.season();
            Check.due("a year older", x.ofChild(0, 0), 8);
            Check.due("moved up", x.ofChild(2, 1), 1);
            Check.due("the same day", x.today(), 10);
        });
        doc.says("returns how many children left a troop by their age.", SeasonSentences::howManyLeft);
    }

    private static void allAreOlder() {
        Badgewood x = Starts.camp();
        int[] ages = {7, 8, 9, 6, 8, 12, 11, 10, 5};
        x.season();
        for (int child = 0; child < 9; child++) {
            Check.due("in, waiting or neither", x.ofChild(child, 0), ages[child] + 1);
        }
        x.season();
        Check.due("two years", x.ofChild(8, 0), 7);
        Badgewood old = new Badgewood();
        old.child(17);
        old.season();
        Check.due("above what may be told", old.ofChild(0, 0), 18);
    }

    /** A troop for 8 and 9, with one who is in at each age, and one who waits at each. */
    private static Badgewood eightAndNine() {
        Badgewood x = new Badgewood();
        x.troop(8, 9, 2);
        x.troop(10, 10, 12);
        int[] ages = {8, 9, 9, 8};
        for (int age : ages) {
            x.join(x.child(age), 0);
        }
        return x;
    }

    private static void tooOldForIt() {
        Badgewood x = eightAndNine();
        x.season();
        Check.due("the greatest age stays", x.ofChild(0, 1), 0);
        Check.due("and keeps its patrol", x.ofChild(0, 3), 0);
        Check.due("who is older leaves", x.ofChild(1, 1) != 0, true);
        Check.due("who waits and is older waits no more", x.ofChild(2, 2), NONE);
        Check.due("nor is in", x.ofChild(2, 1), NONE);
        Check.due("not in the one that would be for its age", x.ofTroop(1, false), 1);
        Check.due("who waits at the greatest age does not go", x.ofChild(3, 1), 0);
        Badgewood last = new Badgewood();
        last.troop(5, 20, 1);
        last.join(last.child(17), 0);
        last.join(last.child(17), 0);
        for (int age = 18; age <= 20; age++) {
            Check.due("up to twenty", last.season(), 0);
            Check.due("one waits up to twenty", last.ofTroop(0, true), 1);
        }
        Check.due("not with 21", last.season(), 1);
        Check.due("none is in", last.ofTroop(0, false), 0);
        Check.due("none waits", last.ofTroop(0, true), 0);
    }

    private static void thoseWhoWaitComeIn() {
        for (int leavers = 0; leavers <= 4; leavers++) {
            Badgewood x = new Badgewood();
            x.troop(5, 8, 4);
            for (int child = 0; child < 4; child++) {
                x.join(x.child(child < leavers ? 8 : 5), 0);
            }
            for (int child = 4; child < 7; child++) {
                x.child(5);
            }
            x.join(6, 0);
            x.join(4, 0);
            x.join(5, 0);
            x.season();
            int[] order = {6, 4, 5};
            for (int place = 0; place < 3; place++) {
                int troop = place < leavers ? 0 : NONE;
                Check.due(leavers + " leave, the one at " + place, x.ofChild(order[place], 1), troop);
            }
            Check.due("so many wait", x.ofTroop(0, true), Math.max(0, 3 - leavers));
            Check.due("so many are in", x.ofTroop(0, false), 4 - Math.max(0, leavers - 3));
        }
        aheadOfThoseWhoLeft();
    }

    /** The higher troop's own who wait go ahead of who comes from the lower one. */
    private static void aheadOfThoseWhoLeft() {
        Badgewood x = new Badgewood();
        x.troop(5, 8, 1);
        x.troop(9, 10, 1);
        int[] ages = {8, 10, 9};
        int[] troops = {0, 1, 1};
        for (int child = 0; child < 3; child++) {
            x.join(x.child(ages[child]), troops[child]);
        }
        Check.due("two leave", x.season(), 2);
        Check.due("who waited is in", x.ofChild(2, 1), 1);
        Check.due("who left waits", x.ofChild(0, 2), 1);
    }

    private static void thoseWhoLeftJoin() {
        Badgewood x = new Badgewood();
        x.troop(10, 20, 2);
        x.troop(10, 12, 12);
        x.troop(5, 9, 12);
        for (int child = 0; child < 5; child++) {
            x.child(9);
        }
        for (int child = 4; child >= 0; child--) {
            x.join(child, 2);
        }
        x.leave(2);
        Check.due("four leave", x.season(), 4);
        Check.due("the lowest number first", x.ofChild(0, 3), 0);
        Check.due("then the next", x.ofChild(1, 3), 1);
        Check.due("waits for the lowest, though another has room", x.ofChild(3, 2), 0);
        Check.due("who had left before joins nothing", x.ofChild(2, 1), NONE);
        Check.due("the lower one waits ahead", x.leave(0), 3);
        Check.due("then the higher one", x.leave(1), 4);
        Check.due("the other is empty", x.ofTroop(1, false), 0);
        noneForTheirAge();
    }

    private static void noneForTheirAge() {
        Badgewood x = new Badgewood();
        x.troop(5, 9, 2);
        x.troop(11, 20, 2);
        x.join(x.child(9), 0);
        Check.due("one leaves", x.season(), 1);
        Check.due("is in none", x.ofChild(0, 1), NONE);
        Check.due("waits for none", x.ofChild(0, 2), NONE);
        Check.due("none leaves with the next", x.season(), 0);
        Check.due("nor joins", x.ofChild(0, 1), NONE);
        x.join(0, 1);
        Check.due("may join by itself", x.ofChild(0, 1), 1);
    }

    private static void howManyLeft() {
        Check.due("no children", new Badgewood().season(), 0);
        Check.due("who waits is not counted, who moves up is", eightAndNine().season(), 1);
        Badgewood x = Starts.crowd();
        for (int child = 0; child < 24; child++) {
            x.join(child, child % 2);
        }
        for (int age = 9; age <= 20; age++) {
            Check.due("none with " + age, x.season(), 0);
        }
        Check.due("all", x.season(), 24);
        Check.due("none is left to leave", x.season(), 0);
    }
}
