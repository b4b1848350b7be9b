/** The sentences about boxes: terms, and promises 21 to 23. */
final class BoxSentences {
    private BoxSentences() {
    }

    static void tell(Sentences doc) {
        doc.section("Boxes");
        doc.says("A child may take boxes of its troop, for 4 coins each, which it owes to that troop, also behind"
                + " leaving it.", BoxSentences::owesBehindLeaving);
        tellBoxes(doc);
        tellPay(doc);
        tellOwed(doc);
    }

    private static void owesBehindLeaving() {
        Badgewood x = Starts.camp();
        Check.due("four each", x.boxes(1, 7), 28);
        Check.due("to its troop", x.owed(0), 68);
        x.leave(1);
        Check.due("behind leaving it", x.ofChild(1, 5), 28);
        Check.due("to that troop", x.owed(0), 68);
        x.join(1, 1);
        Check.due("not to the one that it is in now", x.owed(1), 10);
        Check.due("but to that troop", x.owed(0), 68);
        for (int years = 0; years < 15; years++) {
            x.season();
        }
        Check.due("behind all years", x.owed(0), 68);
        Check.due("one pays that", x.pay(1, 28), 0);
        Check.due("then it is owed less", x.owed(0), 40);
    }

    private static void tellBoxes(Sentences doc) {
        doc.section("Promise 21");
        doc.says("Lets a child take boxes.", () -> {
            Badgewood x = Starts.camp();
            x.boxes(2, 1);
            Check.due("it owes for one", x.ofChild(2, 5), 4);
            Check.due("another owes what it did", x.ofChild(0, 5), 40);
        });
        doc.says("`child`: a child", () -> {
            Edges.range(Check.INDEX, 0, 23, Starts::most, (x, child) -> x.boxes(child, 1));
            Edges.offByOne(Check.INDEX, 0, 8, Starts::camp, (x, child) -> x.boxes(child, 1));
        });
        doc.says("`boxes`: 1 to 99", () -> {
            Edges.range(Check.ARGUMENT, 1, 99, Starts::camp, (x, boxes) -> x.boxes(1, boxes));
            Check.due("one", Starts.camp().boxes(1, 1), 4);
            Check.due("99", Starts.camp().boxes(1, 99), 396);
        });
        doc.says("Returns how many coins it owes then.", () -> {
            Badgewood x = Starts.camp();
            Check.due("with what it owed", x.boxes(5, 99), 406);
            x.pay(5, 396);
            x.pay(5, 10);
            Check.due("when it owed nothing", x.boxes(5, 2), 8);
        });
        doc.says("Throws `IndexOutOfBoundsException` if there is no such child",
                () -> Edges.farOff(Check.INDEX, 0, 8, Starts::camp, (x, child) -> x.boxes(child, 1)));
        doc.says("Throws `IllegalArgumentException` if boxes is out of range",
                () -> Edges.farOff(Check.ARGUMENT, 1, 99, Starts::camp, (x, boxes) -> x.boxes(0, boxes)));
        doc.says("Throws `IllegalStateException` if it is in no troop, owes to another one, or would have taken more"
                + " than 9999 in all", () -> {
                    Edges.refusedInVain("in none", Check.STATE, Starts::camp, x -> x.boxes(7, 1));
                    Edges.refusedInVain("waits", Check.STATE, Starts::camp, x -> x.boxes(3, 1));
                    owesToAnother();
                    moreThan9999();
                    moreThan9999OfTwoTroops();
                });
    }

    private static void owesToAnother() {
        Edges.refusedInVain("owes to another", Check.STATE, Starts::camp, x -> x.boxes(6, 1));
        Badgewood x = Starts.camp();
        x.pay(6, 3);
        Check.refuses("owes one coin to another", Check.STATE, () -> x.boxes(6, 1));
        x.leave(6);
        Check.refuses("owes to one, and is in none", Check.STATE, () -> x.boxes(6, 1));
        x.join(6, 2);
        Check.due("owes to that very one", x.boxes(6, 1), 5);
        x.leave(6);
        x.join(6, 1);
        x.pay(6, 5);
        Check.due("owes to none", x.boxes(6, 1), 4);
        Check.due("owes to the one that it is in", x.owed(1), 14);
        Check.due("owes to the other no more", x.owed(2), 0);
    }

    /** A child who has taken 9900 and owes for a part of them. */
    private static Badgewood greedy() {
        Badgewood x = Starts.queue(12, 2);
        for (int times = 0; times < 100; times++) {
            x.boxes(0, 99);
            if (times % 2 == 0) {
                x.pay(0, 396);
            }
        }
        return x;
    }

    private static void moreThan9999() {
        Badgewood all = greedy();
        Check.due("just 9999", all.boxes(0, 99), 51 * 396);
        Check.refuses("one more", Check.STATE, () -> all.boxes(0, 1));
        Check.refuses("99 more", Check.STATE, () -> all.boxes(0, 99));
        Check.due("nothing is owed for that", all.ofChild(0, 5), 51 * 396);
        Check.due("another child", all.boxes(1, 99), 396);
        all.pay(0, 396);
        Check.refuses("what is paid counts still", Check.STATE, () -> all.boxes(0, 1));
        Badgewood x = greedy();
        x.boxes(0, 98);
        Check.refuses("10000", Check.STATE, () -> x.boxes(0, 2));
        Check.due("a refused call counts for nothing", x.boxes(0, 1), 51 * 396);
    }

    private static void moreThan9999OfTwoTroops() {
        Badgewood x = greedy();
        x.troop(5, 20, 12);
        while (x.ofChild(0, 5) > 0) {
            x.pay(0, 396);
        }
        x.leave(0);
        x.join(0, 1);
        Check.due("9999 of both together", x.boxes(0, 99), 396);
        Check.refuses("one more", Check.STATE, () -> x.boxes(0, 1));
    }

    private static void tellPay(Sentences doc) {
        doc.section("Promise 22");
        doc.says("Lets a child pay.", () -> {
            Badgewood x = Starts.camp();
            x.pay(0, 15);
            Check.due("it owes less", x.ofChild(0, 5), 25);
            Check.due("its troop is owed less", x.owed(0), 25);
            Check.due("another owes what it did", x.ofChild(5, 5), 10);
        });
        doc.says("`child`: a child", () -> {
            Edges.range(Check.INDEX, 0, 23, Starts::most, (x, child) -> x.pay(child, 4));
            Edges.offByOne(Check.INDEX, 0, 8, Starts::camp, (x, child) -> x.pay(child, 1));
        });
        doc.says("`coins`: 1 to 396", () -> Edges.range(Check.ARGUMENT, 1, 396, BoxSentences::greedy,
                (x, coins) -> x.pay(0, coins)));
        doc.says("Returns how many it owes then.", () -> {
            Badgewood x = Starts.camp();
            x.boxes(1, 99);
            Check.due("nothing, by the most", x.pay(1, 396), 0);
            Check.due("all but one coin", x.pay(0, 1), 39);
            Check.due("one coin", x.pay(0, 38), 1);
            Check.due("nothing", x.pay(0, 1), 0);
            Check.due("what it owes to a troop that it left", x.pay(6, 1), 3);
        });
        doc.says("Throws `IndexOutOfBoundsException` if there is no such child",
                () -> Edges.farOff(Check.INDEX, 0, 8, Starts::camp, (x, child) -> x.pay(child, 1)));
        doc.says("Throws `IllegalArgumentException` if coins is out of range",
                () -> Edges.farOff(Check.ARGUMENT, 1, 396, BoxSentences::greedy, (x, coins) -> x.pay(0, coins)));
        doc.says("Throws `IllegalStateException` if it owes fewer", () -> {
            Edges.refusedInVain("one coin too many", Check.STATE, Starts::camp, x -> x.pay(0, 41));
            Edges.refusedInVain("many too many", Check.STATE, Starts::camp, x -> x.pay(0, 396));
            Edges.refusedInVain("owes nothing", Check.STATE, Starts::camp, x -> x.pay(7, 1));
            Edges.taken("just as many", Starts::camp, x -> x.pay(0, 40));
            Badgewood x = Starts.camp();
            x.pay(0, 40);
            Check.refuses("paid", Check.STATE, () -> x.pay(0, 1));
        });
    }

    private static void tellOwed(Sentences doc) {
        doc.section("Promise 23");
        doc.says("Returns what children owe to a troop, together.", () -> {
            Badgewood x = Starts.camp();
            x.boxes(1, 1);
            x.boxes(2, 99);
            Check.due("of three", x.owed(0), 440);
            Check.due("of one of two", x.owed(1), 10);
            Check.due("of one who left", x.owed(2), 4);
        });
        doc.says("`troop`: a troop", () -> Edges.troop((x, troop) -> x.owed(troop)));
        doc.says("Returns the coins.", () -> {
            Badgewood x = Starts.queue(12, 12);
            Check.due("none", x.owed(0), 0);
            for (int child = 0; child < 12; child++) {
                x.boxes(child, 99);
            }
            Check.due("of twelve", x.owed(0), 12 * 396);
            for (int child = 0; child < 12; child++) {
                x.pay(child, 396);
            }
            Check.due("none any more", x.owed(0), 0);
        });
        doc.says("Throws `IndexOutOfBoundsException` if there is no such troop",
                () -> Edges.farOff(Check.INDEX, 0, 2, Starts::camp, (x, troop) -> x.owed(troop)));
    }
}
