/** The sentences of promises 24 to 26. */
final class AskingSentences {
    private static final int NONE = Badgewood.NONE;

    private AskingSentences() {
    }

    static void tell(Sentences doc) {
        doc.section("Promise 24");
        doc.says("Returns the day.", () -> {
            Check.due("the first", new Badgewood().today(), 0);
            Badgewood x = Starts.camp();
            Check.due("the tenth", x.today(), 10);
            x.season();
            Check.due("a season is no day", x.today(), 10);
            Check.due("the last", Starts.late(0).today(), 9999);
        });
        tellOfChild(doc);
        tellOfTroop(doc);
    }

    private static void tellOfChild(Sentences doc) {
        doc.section("Promise 25");
        doc.says("Tells of a child.", () -> {
            tells("is in", 0, 7, 0, NONE, 0, 1, 40);
            tells("is in another", 6, 11, 1, NONE, 1, 0, 4);
        });
        doc.says("`child`: a child", () -> {
            for (int what = 0; what < 6; what++) {
                int asked = what;
                Edges.child((x, child) -> x.ofChild(child, asked));
            }
        });
        doc.says("`what`: 0 its age, 1 its troop, 2 for which troop it waits, 3 its patrol, each of these three NONE"
                + " without, 4 how many badges it has earned by now, 5 how many coins it owes", () -> {
                    Edges.range(Check.ARGUMENT, 0, 5, Starts::camp, (x, what) -> x.ofChild(0, what));
                    tells("waits", 3, 6, NONE, 0, NONE, 0, 0);
                    tells("neither", 7, 10, NONE, NONE, NONE, 0, 0);
                    tells("owes", 5, 12, 1, NONE, 0, 0, 10);
                });
        doc.says("Returns that.", AskingSentences::whatChanges);
        doc.says("Throws `IndexOutOfBoundsException` if there is no such child",
                () -> Edges.farOff(Check.INDEX, 0, 8, Starts::camp, (x, child) -> x.ofChild(child, 0)));
        doc.says("Throws `IllegalArgumentException` if what is out of range", () -> {
            Edges.farOff(Check.ARGUMENT, 0, 5, Starts::camp, (x, what) -> x.ofChild(0, what));
            Edges.farOff(Check.ARGUMENT, 0, 5, Starts::camp, (x, what) -> x.ofChild(7, what));
        });
    }

    private static void tells(String what, int child, int... due) {
        for (int asked = 0; asked < 6; asked++) {
            Check.due(what + ", " + asked, Starts.camp().ofChild(child, asked), due[asked]);
        }
    }

    private static void whatChanges() {
        Badgewood x = Starts.camp();
        x.leave(1);
        Check.due("the troop 0 for who waited", x.ofChild(3, 1), 0);
        Check.due("the patrol of who came in", x.ofChild(3, 3), 1);
        Check.due("NONE for who left", x.ofChild(1, 1), NONE);
        x.join(1, 0);
        Check.due("the troop 0 is waited for", x.ofChild(1, 2), 0);
        x.patrol(0, 3);
        Check.due("the patrol that was set", x.ofChild(0, 3), 3);
        x.season();
        Check.due("the age", x.ofChild(0, 0), 8);
        x.edition(3, 0, 0, 0, 0, 2, 1);
        x.begin(0, 3);
        Check.due("a badge that is to come does not count", x.ofChild(0, 4), 1);
        x.pass(2);
        Check.due("it counts then", x.ofChild(0, 4), 2);
        x.pass(400);
        Check.due("also when it is held no more", x.ofChild(0, 4), 2);
        x.pay(0, 40);
        Check.due("no coins", x.ofChild(0, 5), 0);
    }

    private static void tellOfTroop(Sentences doc) {
        doc.section("Promise 26");
        doc.says("Returns how many children are in a troop, or wait for it.", () -> {
            Badgewood x = Starts.camp();
            Check.due("are in", x.ofTroop(0, false), 3);
            Check.due("wait", x.ofTroop(0, true), 2);
            Check.due("are in another", x.ofTroop(1, false), 2);
            Check.due("wait for another", x.ofTroop(1, true), 0);
        });
        doc.says("`troop`: a troop", () -> {
            Edges.troop((x, troop) -> x.ofTroop(troop, false));
            Edges.troop((x, troop) -> x.ofTroop(troop, true));
        });
        doc.says("`isWaiting`: whether those who wait", () -> {
            Badgewood x = Starts.queue(1, 24);
            Check.due("not they", x.ofTroop(0, false), 1);
            Check.due("they", x.ofTroop(0, true), 23);
        });
        doc.says("Returns how many.", () -> {
            Badgewood x = Starts.queue(12, 24);
            for (int child = 0; child < 24; child++) {
                Check.due("in", x.ofTroop(0, false), Math.min(12, 24 - child));
                Check.due("wait", x.ofTroop(0, true), Math.max(0, 12 - child));
                x.leave(child);
            }
            Check.due("none is in", x.ofTroop(0, false), 0);
            Check.due("none waits", x.ofTroop(0, true), 0);
        });
        doc.says("Throws `IndexOutOfBoundsException` if there is no such troop", () -> {
            Edges.farOff(Check.INDEX, 0, 2, Starts::camp, (x, troop) -> x.ofTroop(troop, false));
            Edges.farOff(Check.INDEX, 0, 2, Starts::camp, (x, troop) -> x.ofTroop(troop, true));
        });
    }
}
