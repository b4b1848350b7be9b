/** The sentences about troops and children: terms, and promises 1 to 9. */
final class TroopSentences {
    private static final int NONE = Badgewood.NONE;

    private TroopSentences() {
    }

    static void tell(Sentences doc) {
        doc.section("Terms");
        doc.asksNothing("Troops, children");
        doc.says("Troops are numbered from 0, at most 6, each for ages from one to another, with room for so many"
                + " children;", TroopSentences::atMostSixTroops);
        doc.says("children are numbered from 0, at most 24, each with an age.", TroopSentences::atMost24Children);
        doc.says("A child is in one troop, or waits for one, or neither.", TroopSentences::inOneOrWaitsOrNeither);
        doc.says("Who joins a troop that is full waits behind those who wait already.", TroopSentences::waitsBehind);
        doc.says("When a child leaves a troop, the first one who waits for it comes in.", TroopSentences::firstComesIn);
        doc.says("Who comes into a troop comes into that of its patrols 0 to 3 with the fewest children, of several the"
                + " lowest.", TroopSentences::fewestOfThePatrols);
        doc.says("The job of a day is that of one of the patrols that have children by now: by rising numbers, the one"
                + " whose place among these is the remainder of the day by how many there are.",
                TroopSentences::jobsInTurn);
        doc.section("Promise 1");
        doc.says("No troops, children, leaders and events, badges without editions;", TroopSentences::nothingAtFirst);
        doc.says("the day 0.", () -> Check.due("today", new Badgewood().today(), 0));
        tellTroop(doc);
        tellChild(doc);
        tellJoin(doc);
        tellLeave(doc);
        tellPatrol(doc);
        tellDuty(doc);
        tellPass(doc);
    }

    private static void atMostSixTroops() {
        Badgewood x = new Badgewood();
        int[] rooms = {1, 12, 2, 1, 3, 1};
        for (int troop = 0; troop < 6; troop++) {
            Check.due("its number", x.troop(5 + troop, 6 + troop, rooms[troop]), troop);
        }
        Check.refuses("a seventh", Check.STATE, () -> x.troop(5, 20, 1));
        for (int troop = 0; troop < 6; troop++) {
            int young = x.child(5 + troop);
            int old = x.child(6 + troop);
            Check.due("the least of its own ages", x.join(young, troop), 0);
            Check.due("the greatest, in its own room", x.join(old, troop), rooms[troop] == 1 ? 1 : 0);
        }
    }

    private static void atMost24Children() {
        Badgewood x = new Badgewood();
        for (int child = 0; child < 24; child++) {
            Check.due("its number", x.child(5 + child % 13), child);
        }
        Check.refuses("a twenty-fifth", Check.STATE, () -> x.child(5));
        for (int child = 0; child < 24; child++) {
            Check.due("its own age", x.ofChild(child, 0), 5 + child % 13);
        }
    }

    private static void inOneOrWaitsOrNeither() {
        Badgewood x = Starts.queue(1, 2);
        x.troop(5, 20, 12);
        x.child(8);
        standing(x, 0, 0, NONE);
        standing(x, 1, NONE, 0);
        standing(x, 2, NONE, NONE);
        for (int child = 0; child < 2; child++) {
            int joiner = child;
            Check.refuses("not two", Check.STATE, () -> x.join(joiner, 0));
            Check.refuses("not another", Check.STATE, () -> x.join(joiner, 1));
        }
        x.leave(0);
        standing(x, 0, NONE, NONE);
        standing(x, 1, 0, NONE);
    }

    private static void standing(Badgewood x, int child, int troop, int awaited) {
        Check.due("the troop of " + child, x.ofChild(child, 1), troop);
        Check.due("the one that " + child + " waits for", x.ofChild(child, 2), awaited);
        Check.due("no patrol without a troop", x.ofChild(child, 3) == NONE, troop == NONE);
    }

    private static void waitsBehind() {
        Badgewood x = Starts.queue(2, 0);
        for (int child = 0; child < 6; child++) {
            x.child(8);
        }
        Check.due("one place is left", x.join(5, 0), 0);
        Check.due("then none", x.join(4, 0), 0);
        Check.due("behind nobody", x.join(3, 0), 1);
        Check.due("behind one, though with a lower number", x.join(0, 0), 2);
        Check.due("behind two", x.join(2, 0), 3);
        x.leave(0);
        Check.due("behind those two who wait still", x.join(1, 0), 3);
        Check.due("the first", x.leave(5), 3);
        Check.due("the second", x.leave(4), 2);
        Check.due("the last", x.leave(3), 1);
        Check.due("full still", x.join(3, 0), 1);
        whoWaitsAnewWaitsBehind();
    }

    private static void whoWaitsAnewWaitsBehind() {
        Badgewood x = Starts.queue(1, 4);
        x.leave(1);
        Check.due("behind two who came later at first", x.join(1, 0), 3);
        Check.due("the second is the first now", x.leave(0), 2);
        Check.due("who was in waits behind too", x.join(0, 0), 3);
        Check.due("then the third", x.leave(2), 3);
        Check.due("then the one who waits anew", x.leave(3), 1);
        Check.due("then who was in", x.leave(1), 0);
    }

    private static void firstComesIn() {
        Badgewood x = Starts.queue(1, 4);
        x.troop(5, 20, 1);
        x.join(x.child(8), 1);
        x.join(x.child(8), 1);
        Check.due("the first", x.leave(0), 1);
        standing(x, 1, 0, NONE);
        standing(x, 2, NONE, 0);
        Check.due("one in one's stead", x.ofTroop(0, false), 1);
        Check.due("two wait still", x.ofTroop(0, true), 2);
        Check.due("none of them for the other", x.leave(4), 5);
        Check.due("who waits and goes leaves no place", x.leave(2), NONE);
        Check.due("the third is the first now", x.leave(1), 3);
        Check.due("the last goes", x.leave(3), NONE);
        Check.due("an empty one has room", x.join(0, 0), 0);
    }

    private static void fewestOfThePatrols() {
        Badgewood x = Starts.queue(12, 8);
        for (int child = 0; child < 8; child++) {
            Check.due("of several the lowest", x.ofChild(child, 3), child % 4);
        }
        x.join(x.child(8), 0);
        x.leave(7);
        x.join(7, 0);
        Check.due("the last with the fewest", x.ofChild(7, 3), 3);
        x.patrol(1, 0);
        x.patrol(6, 3);
        x.patrol(5, 3);
        x.join(x.child(8), 0);
        Check.due("an empty one", x.ofChild(9, 3), 1);
        x.join(x.child(8), 0);
        Check.due("of two the lower", x.ofChild(10, 3), 1);
        comesInAsOneLeaves();
        comesInWithASeason();
    }

    private static void comesInAsOneLeaves() {
        Badgewood x = Starts.queue(4, 5);
        x.leave(2);
        Check.due("the patrol of who left", x.ofChild(4, 3), 2);
        x.patrol(4, 0);
        x.patrol(3, 0);
        x.join(2, 0);
        x.leave(0);
        Check.due("not that of who left", x.ofChild(2, 3), 2);
    }

    private static void comesInWithASeason() {
        Badgewood x = new Badgewood();
        x.troop(5, 8, 2);
        x.troop(9, 12, 3);
        int[] ages = {8, 7, 6, 6, 9, 9};
        int[] troops = {0, 0, 0, 0, 1, 1};
        for (int child = 0; child < ages.length; child++) {
            x.join(x.child(ages[child]), troops[child]);
        }
        x.patrol(4, 1);
        x.patrol(5, 2);
        x.season();
        Check.due("who waited", x.ofChild(2, 3), 0);
        Check.due("who moves up", x.ofChild(0, 3), 0);
        x.patrol(0, 3);
        x.leave(4);
        x.season();
        Check.due("another who moves up", x.ofChild(1, 1), 1);
        Check.due("into an empty one", x.ofChild(1, 3), 0);
    }

    private static void jobsInTurn() {
        for (int patrols = 0; patrols < 16; patrols++) {
            Badgewood x = Starts.queue(12, 8);
            int[] by = settle(x, patrols);
            for (int day = 0; day < 13; day++) {
                int due = by.length == 0 ? NONE : by[day % by.length];
                Check.due("the patrols " + patrols + " on " + day, x.duty(0, day), due);
            }
            Check.due("on the last day", x.duty(0, 9999), by.length == 0 ? NONE : by[9999 % by.length]);
        }
    }

    /** Leaves children in just those patrols of the set; returns which, by rising numbers. */
    private static int[] settle(Badgewood x, int patrols) {
        int[] by = new int[Integer.bitCount(patrols)];
        int found = 0;
        for (int patrol = 0; patrol < 4; patrol++) {
            if ((patrols >> patrol & 1) == 1) {
                by[found] = patrol;
                found++;
            } else {
                x.leave(patrol);
                x.leave(4 + patrol);
            }
        }
        return by;
    }

    private static void nothingAtFirst() {
        Edges.refused("troops", Check.INDEX, Badgewood::new, x -> x.ofTroop(0, false));
        Edges.refused("children", Check.INDEX, Badgewood::new, x -> x.ofChild(0, 0));
        Edges.refused("leaders", Check.INDEX, Badgewood::new, x -> x.teach(0, 0));
        Edges.refused("events", Check.INDEX, Badgewood::new, x -> x.why(0));
        Badgewood x = new Badgewood();
        Check.due("the first troop", x.troop(5, 20, 12), 0);
        Check.due("the first child", x.child(8), 0);
        Check.due("the first leader", x.leader(), 0);
        Check.due("the first event", x.event(0, 0, 0, 0, 0, 1), 0);
        for (int badge = 0; badge < 8; badge++) {
            int begun = badge;
            Check.refuses("an edition of " + badge, Check.STATE, () -> x.begin(0, begun));
            Check.due("the first edition of " + badge, x.edition(badge, 0, 0, 0, NONE, 0, 0), 0);
        }
    }

    private static void tellTroop(Sentences doc) {
        doc.section("Promise 2");
        doc.says("Begins a troop.", TroopSentences::beginsATroop);
        doc.says("`from`: 5 to 20: the least age", TroopSentences::theLeastAge);
        doc.says("`to`: from to 20: the greatest age", TroopSentences::theGreatestAge);
        doc.says("`room`: 1 to 12", TroopSentences::room);
        doc.says("Returns its number.", () -> {
            Badgewood x = new Badgewood();
            for (int troop = 0; troop < 6; troop++) {
                Check.due("the number", x.troop(5, 20, 12), troop);
            }
        });
        doc.says("Throws `IllegalArgumentException` if an argument is out of range", () -> {
            Edges.farOff(Check.ARGUMENT, 5, 20, Starts::camp, (x, from) -> x.troop(from, 20, 1));
            Edges.farOff(Check.ARGUMENT, 11, 20, Starts::camp, (x, to) -> x.troop(11, to, 1));
            Edges.farOff(Check.ARGUMENT, 1, 12, Starts::camp, (x, room) -> x.troop(5, 20, room));
            Edges.refused("both ages too high", Check.ARGUMENT, Starts::camp, x -> x.troop(21, 21, 1));
            Edges.refused("both ages too low", Check.ARGUMENT, Starts::camp, x -> x.troop(4, 4, 1));
        });
        doc.says("Throws `IllegalStateException` if there are 6", () -> {
            Edges.taken("with five", TroopSentences::fiveTroops, x -> x.troop(5, 20, 1));
            Edges.refusedInVain("with six", Check.STATE, Starts::most, x -> x.troop(5, 20, 1));
        });
    }

    private static Badgewood fiveTroops() {
        Badgewood x = new Badgewood();
        for (int troop = 0; troop < 5; troop++) {
            x.troop(5, 20, 12);
        }
        return x;
    }

    private static void beginsATroop() {
        Badgewood x = Starts.camp();
        int troop = x.troop(10, 10, 1);
        Check.due("is empty", x.ofTroop(troop, false), 0);
        Check.due("is not waited for", x.ofTroop(troop, true), 0);
        Check.due("is owed nothing", x.owed(troop), 0);
        Check.due("has no patrol for the job", x.duty(troop, 0), NONE);
        Check.due("may be joined", x.join(7, troop), 0);
    }

    private static void theLeastAge() {
        Edges.range(Check.ARGUMENT, 5, 20, Badgewood::new, (x, from) -> x.troop(from, 20, 1));
        for (int from = 5; from <= 17; from++) {
            Badgewood x = new Badgewood();
            x.troop(from, 20, 12);
            Check.due("just old enough", x.join(x.child(from), 0), 0);
            if (from > 5) {
                int child = x.child(from - 1);
                Check.refuses("too young", Check.STATE, () -> x.join(child, 0));
            }
        }
    }

    private static void theGreatestAge() {
        for (int from = 5; from <= 20; from++) {
            int least = from;
            Edges.range(Check.ARGUMENT, from, 20, Badgewood::new, (x, to) -> x.troop(least, to, 1));
        }
        for (int to = 5; to <= 20; to++) {
            Badgewood x = new Badgewood();
            x.troop(5, to, 12);
            x.child(Math.min(to, 17));
            for (int age = 17; age < to; age++) {
                x.season();
            }
            Check.due("not too old", x.join(0, 0), 0);
            x.leave(0);
            x.season();
            Check.refuses("too old", Check.STATE, () -> x.join(0, 0));
        }
    }

    private static void room() {
        Edges.range(Check.ARGUMENT, 1, 12, Badgewood::new, (x, room) -> x.troop(5, 20, room));
        for (int room = 1; room <= 12; room++) {
            Badgewood x = Starts.queue(room, room);
            Check.due("as many as that", x.ofTroop(0, false), room);
            Check.due("one more waits", x.join(x.child(8), 0), 1);
            Check.due("still as many", x.ofTroop(0, false), room);
        }
    }

    private static void tellChild(Sentences doc) {
        doc.section("Promise 3");
        doc.says("Tells a child.", () -> {
            Badgewood x = Starts.camp();
            int child = x.child(11);
            standing(x, child, NONE, NONE);
            Check.due("its age", x.ofChild(child, 0), 11);
            Check.due("its badges", x.ofChild(child, 4), 0);
            Check.due("its coins", x.ofChild(child, 5), 0);
        });
        doc.says("`age`: 5 to 17", () -> {
            Edges.range(Check.ARGUMENT, 5, 17, Badgewood::new, (x, age) -> x.child(age));
            Badgewood x = new Badgewood();
            for (int age = 5; age <= 17; age++) {
                Check.due("its age", x.ofChild(x.child(age), 0), age);
            }
        });
        doc.says("Returns its number.", () -> {
            Badgewood x = new Badgewood();
            for (int child = 0; child < 24; child++) {
                Check.due("the number", x.child(5), child);
            }
        });
        doc.says("Throws `IllegalArgumentException` if age is out of range",
                () -> Edges.farOff(Check.ARGUMENT, 5, 17, Starts::camp, (x, age) -> x.child(age)));
        doc.says("Throws `IllegalStateException` if there are 24", () -> {
            Badgewood x = new Badgewood();
            for (int child = 0; child < 23; child++) {
                x.child(17);
            }
            Check.due("with 23", x.child(17), 23);
            Edges.refusedInVain("with 24", Check.STATE, Starts::most, y -> y.child(17));
        });
    }

    private static void tellJoin(Sentences doc) {
        doc.section("Promise 4");
        doc.says("Lets a child join a troop, or wait for it if that is full.", () -> {
            Badgewood x = Starts.queue(2, 1);
            x.child(8);
            x.child(8);
            x.join(1, 0);
            standing(x, 1, 0, NONE);
            x.join(2, 0);
            standing(x, 2, NONE, 0);
        });
        doc.says("`child`: a child", () -> {
            Edges.range(Check.INDEX, 0, 23, Starts::crowd, (x, child) -> x.join(child, 0));
            Edges.offByOne(Check.INDEX, 0, 8, Starts::camp, (x, child) -> x.join(child, 0));
        });
        doc.says("`troop`: a troop", () -> {
            Edges.range(Check.INDEX, 0, 5, Starts::crowd, (x, troop) -> x.join(0, troop));
            Edges.offByOne(Check.INDEX, 0, 2, Starts::camp, (x, troop) -> x.join(7, troop));
        });
        doc.says("Returns 0 if it is in;", () -> {
            Badgewood x = Starts.crowd();
            for (int child = 0; child < 12; child++) {
                Check.due("one of twelve", x.join(child, 5), 0);
            }
        });
        doc.says("otherwise its place among those who wait, 1 for the first one.", () -> {
            Badgewood x = Starts.queue(1, 1);
            for (int place = 1; place < 24; place++) {
                Check.due("the place", x.join(x.child(8), 0), place);
            }
        });
        doc.says("Throws `IndexOutOfBoundsException` if there is no such child or troop", () -> {
            Edges.farOff(Check.INDEX, 0, 8, Starts::camp, (x, child) -> x.join(child, 0));
            Edges.farOff(Check.INDEX, 0, 2, Starts::camp, (x, troop) -> x.join(7, troop));
        });
        doc.says("Throws `IllegalStateException` if it is in a troop, waits for one, or the troop is not for its age",
                () -> {
                    Edges.refusedInVain("is in it", Check.STATE, Starts::camp, x -> x.join(0, 0));
                    Edges.refusedInVain("is in another", Check.STATE, Starts::camp, x -> x.join(0, 2));
                    Edges.refusedInVain("waits for it", Check.STATE, Starts::camp, x -> x.join(3, 0));
                    Edges.refusedInVain("waits for another", Check.STATE, Starts::camp, x -> x.join(3, 2));
                    Edges.refusedInVain("a year too young", Check.STATE, Starts::camp, x -> x.join(8, 0));
                    Edges.refusedInVain("a year too old", Check.STATE, Starts::camp, x -> x.join(7, 0));
                    Edges.taken("neither", Starts::camp, x -> x.join(7, 1));
                });
    }

    private static void tellLeave(Sentences doc) {
        doc.section("Promise 5");
        doc.says("Lets a child leave its troop, or wait no more.", () -> {
            Badgewood x = Starts.camp();
            x.leave(1);
            standing(x, 1, NONE, NONE);
            x.leave(4);
            standing(x, 4, NONE, NONE);
            Check.due("none waits now", x.ofTroop(0, true), 0);
            Check.due("as many are in", x.ofTroop(0, false), 3);
        });
        doc.says("`child`: a child", () -> Edges.child((x, child) -> x.leave(child)));
        doc.says("Returns the child that comes into the troop by that;", () -> {
            Badgewood x = Starts.camp();
            Check.due("the first", x.leave(2), 3);
            Check.due("the second", x.leave(0), 4);
            Badgewood y = Starts.queue(1, 0);
            y.child(8);
            y.child(8);
            y.join(1, 0);
            y.join(0, 0);
            Check.due("the child 0", y.leave(1), 0);
        });
        doc.says("NONE if none does.", () -> {
            Badgewood x = Starts.camp();
            Check.due("none waits for it, though some do for another", x.leave(5), NONE);
            Check.due("it waited itself", x.leave(3), NONE);
            Check.due("the other who waited", x.leave(4), NONE);
            Check.due("nobody is left who waits", x.leave(0), NONE);
        });
        doc.says("Throws `IndexOutOfBoundsException` if there is no such child",
                () -> Edges.farOff(Check.INDEX, 0, 8, Starts::camp, (x, child) -> x.leave(child)));
        doc.says("Throws `IllegalStateException` if it is in no troop, and waits for none", () -> {
            Edges.refusedInVain("never joined", Check.STATE, Starts::camp, x -> x.leave(7));
            Badgewood x = Starts.queue(1, 2);
            x.leave(1);
            Check.refuses("waits no more", Check.STATE, () -> x.leave(1));
            x.leave(0);
            Check.refuses("has left", Check.STATE, () -> x.leave(0));
        });
    }

    private static void tellPatrol(Sentences doc) {
        doc.section("Promise 6");
        doc.says("Sets the patrol of a child.", () -> {
            Badgewood x = Starts.camp();
            for (int patrol = 0; patrol < 4; patrol++) {
                x.patrol(1, patrol);
                Check.due("its patrol", x.ofChild(1, 3), patrol);
                Check.due("another's", x.ofChild(0, 3), 0);
            }
        });
        doc.says("`child`: a child", () -> Edges.child((x, child) -> x.patrol(child, 2)));
        doc.says("`patrol`: 0 to 3",
                () -> Edges.range(Check.ARGUMENT, 0, 3, Starts::camp, (x, patrol) -> x.patrol(0, patrol)));
        doc.says("Returns the one before.", () -> {
            Badgewood x = Starts.camp();
            Check.due("into which it came", x.patrol(2, 0), 2);
            Check.due("the lowest", x.patrol(2, 3), 0);
            Check.due("the highest", x.patrol(2, 3), 3);
            Check.due("the same", x.patrol(2, 1), 3);
        });
        doc.says("Throws `IndexOutOfBoundsException` if there is no such child",
                () -> Edges.farOff(Check.INDEX, 0, 8, Starts::camp, (x, child) -> x.patrol(child, 0)));
        doc.says("Throws `IllegalArgumentException` if patrol is out of range",
                () -> Edges.farOff(Check.ARGUMENT, 0, 3, Starts::camp, (x, patrol) -> x.patrol(0, patrol)));
        doc.says("Throws `IllegalStateException` if it is in no troop", () -> {
            Edges.refusedInVain("in none", Check.STATE, Starts::camp, x -> x.patrol(7, 0));
            Edges.refusedInVain("waits", Check.STATE, Starts::camp, x -> x.patrol(3, 0));
        });
    }

    private static void tellDuty(Sentences doc) {
        doc.section("Promise 7");
        doc.says("Returns which patrol of a troop has the job of a day.", () -> {
            Badgewood x = Starts.camp();
            Check.due("of three", x.duty(0, 5), 2);
            Check.due("of two", x.duty(1, 5), 1);
        });
        doc.says("`troop`: a troop", () -> Edges.troop((x, troop) -> x.duty(troop, 0)));
        doc.says("`day`: 0 to 9999", () -> {
            Edges.range(Check.ARGUMENT, 0, 9999, Starts::camp, (x, day) -> x.duty(0, day));
            Badgewood x = Starts.camp();
            Check.due("a day that is gone", x.duty(0, 1), 1);
            Check.due("the first", x.duty(0, 0), 0);
            Check.due("the last", x.duty(1, 9999), 1);
        });
        doc.says("Returns the patrol;", () -> {
            Badgewood x = Starts.queue(12, 1);
            for (int patrol = 0; patrol < 4; patrol++) {
                x.patrol(0, patrol);
                Check.due("the only one", x.duty(0, 7), patrol);
            }
        });
        doc.says("NONE if the troop has no children.", () -> {
            Badgewood x = Starts.camp();
            Check.due("never had", x.duty(2, 0), NONE);
            x.leave(5);
            Check.due("one is left", x.duty(1, 0), 1);
            x.leave(6);
            Check.due("all have left", x.duty(1, 0), NONE);
            Check.due("on the last day", x.duty(1, 9999), NONE);
        });
        doc.says("Throws `IndexOutOfBoundsException` if there is no such troop",
                () -> Edges.farOff(Check.INDEX, 0, 2, Starts::camp, (x, troop) -> x.duty(troop, 0)));
        doc.says("Throws `IllegalArgumentException` if day is out of range", () -> {
            Edges.farOff(Check.ARGUMENT, 0, 9999, Starts::camp, (x, day) -> x.duty(0, day));
            Edges.farOff(Check.ARGUMENT, 0, 9999, Starts::camp, (x, day) -> x.duty(2, day));
        });
    }

    private static void tellPass(Sentences doc) {
        doc.section("Promise 8");
        doc.says("Lets days pass.", () -> {
            Badgewood x = Starts.camp();
            x.pass(5);
            Check.due("five on", x.today(), 15);
            Check.due("no badge is held longer than it lasts", x.holds(0, 0), false);
            Check.due("no season by that", x.ofChild(0, 0), 7);
        });
        doc.says("`days`: 1 to 400",
                () -> Edges.range(Check.ARGUMENT, 1, 400, Starts::camp, (x, days) -> x.pass(days)));
        doc.says("Returns today.", () -> {
            Badgewood x = new Badgewood();
            Check.due("the least", x.pass(1), 1);
            Check.due("the most", x.pass(400), 401);
            Check.due("the day itself", x.today(), 401);
        });
        doc.says("Throws `IllegalArgumentException` if days is out of range",
                () -> Edges.farOff(Check.ARGUMENT, 1, 400, Starts::camp, (x, days) -> x.pass(days)));
        doc.says("Throws `IllegalStateException` if it would be above 9999", () -> {
            for (int left = 0; left < 400; left += 57) {
                int days = left;
                Edges.refusedInVain("a day more than " + left, Check.STATE, () -> Starts.late(days),
                        x -> x.pass(days + 1));
            }
            Edges.refused("the most", Check.STATE, () -> Starts.late(399), x -> x.pass(400));
            Check.due("to the last day", Starts.late(400).pass(400), 9999);
            Check.due("to the last day by one", Starts.late(1).pass(1), 9999);
        });
    }
}
