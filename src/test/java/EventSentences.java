/** The sentences about events: terms, constants, and promises 17 to 20. */
final class EventSentences {
    private static final int NONE = Badgewood.NONE;
    private static final int HALL = Badgewood.HALL;
    private static final int WATER = Badgewood.WATER;
    private static final int ROPES = Badgewood.ROPES;
    private static final int FIRE = Badgewood.FIRE;
    /** For how many children a leader is enough, by the kinds. */
    private static final int[] ENOUGH = {8, 4, 3, 6};

    private EventSentences() {
    }

    static void tell(Sentences doc) {
        doc.section("Badges");
        doc.says("Events are numbered from 0, at most 20: of a troop, in a land, of a kind, on a day, from an hour on"
                + " for so many hours.", EventSentences::atMostTwenty);
        doc.says("Its leaders are those who are told for it;", EventSentences::whoIsToldForIt);
        doc.says("none at two events that have an hour of a day in common;", EventSentences::noneAtTwo);
        doc.says("to tell again what is so changes nothing.", EventSentences::toldAgain);
        doc.says("A leader is enough for 8 children with HALL, 4 with WATER, 3 with ROPES, 6 with FIRE.",
                EventSentences::enough);
        doc.says("By the children whom the troop has now, an event is, the first that is so:",
                EventSentences::theFirstThatIsSo);
        doc.says("- LAWFUL, if the troop has no children;", EventSentences::noChildren);
        doc.says("- TOO_FEW, if its leaders are not enough for all of them;", EventSentences::tooFew);
        doc.says("- NOT_VETTED, if some of its leaders is not vetted for the land on its day;",
                EventSentences::notVetted);
        doc.says("- NO_PERMIT, if its kind is not HALL, and none of its leaders has a permit for it on its day;",
                EventSentences::noPermit);
        doc.says("- ALONE, if there is one leader, and one child;", EventSentences::alone);
        doc.says("- otherwise LAWFUL.", EventSentences::otherwiseLawful);
        tellConstants(doc);
        tellEvent(doc);
        tellStaff(doc);
        tellWhy(doc);
        tellCouldStaff(doc);
    }

    /** Children in troop 0, leaders who are vetted and have all permits, and an event of the kind on the day 5. */
    private static Badgewood planned(int kind, int children, int leaders) {
        Badgewood x = Starts.outing(children, leaders);
        for (int leader = 0; leader < leaders; leader++) {
            for (int permit = WATER; permit <= FIRE; permit++) {
                x.permit(leader, permit, 9999);
            }
        }
        x.event(0, 0, kind, 5, 9, 2);
        return x;
    }

    private static void staffAll(Badgewood x, int leaders) {
        for (int leader = 0; leader < leaders; leader++) {
            x.staff(0, leader, true);
        }
    }

    private static void atMostTwenty() {
        Badgewood x = new Badgewood();
        x.troop(5, 20, 12);
        for (int event = 0; event < 20; event++) {
            Check.due("its number", x.event(0, event % 3, event % 4, event, event, 1), event);
        }
        Check.refuses("a twenty-first", Check.STATE, () -> x.event(0, 0, HALL, 5, 9, 1));
        Check.due("the last", x.why(19), Badgewood.LAWFUL);
        x.join(x.child(8), 0);
        for (int day = 0; day < 20; day++) {
            for (int hour = 0; hour < 24; hour++) {
                Check.due("on its own day, in its own hour", x.couldStaff(day, hour, 0), hour != day);
            }
        }
    }

    private static void whoIsToldForIt() {
        Badgewood x = planned(HALL, 9, 3);
        x.event(0, 0, HALL, 5, 12, 2);
        Check.due("nobody at first", x.why(0), Badgewood.TOO_FEW);
        x.staff(0, 0, true);
        x.staff(1, 1, true);
        Check.due("not who is told for another", x.why(0), Badgewood.TOO_FEW);
        x.staff(0, 2, true);
        Check.due("two who are told", x.why(0), Badgewood.LAWFUL);
        x.staff(0, 0, false);
        Check.due("one is told off", x.why(0), Badgewood.TOO_FEW);
    }

    /** Event 0 from 9 to 10; the other ones around it, of which 1 to 5 have an hour in common with it. */
    private static Badgewood around() {
        Badgewood x = planned(HALL, 1, 2);
        int[] hours = {8, 9, 10, 9, 0, 8, 11, 0, 11, 9, 9};
        int[] lengths = {2, 1, 1, 2, 24, 1, 1, 9, 13, 2, 2};
        int[] days = {5, 5, 5, 5, 5, 5, 5, 5, 5, 4, 6};
        for (int i = 0; i < hours.length; i++) {
            x.event(0, 0, HALL, days[i], hours[i], lengths[i]);
        }
        return x;
    }

    private static void noneAtTwo() {
        for (int event = 1; event <= 11; event++) {
            int other = event;
            Badgewood x = around();
            Badgewood y = around();
            x.staff(0, 1, true);
            y.staff(other, 1, true);
            if (event <= 5) {
                Check.refuses("in common, " + event, Check.STATE, () -> x.staff(other, 1, true));
                Check.refuses("in common, the other way " + event, Check.STATE, () -> y.staff(0, 1, true));
                Check.due("another leader", x.staff(other, 0, true), 1);
            } else {
                Check.due("nothing in common, " + event, x.staff(other, 1, true), 1);
                Check.due("nothing in common, the other way " + event, y.staff(0, 1, true), 1);
            }
        }
        Badgewood x = around();
        x.staff(0, 1, true);
        x.staff(0, 1, false);
        Check.due("who is told off may be at the other", x.staff(1, 1, true), 1);
    }

    private static void toldAgain() {
        Edges.changesNothing("who is there", Starts::camp, x -> Check.due("again", x.staff(0, 0, true), 1));
        Edges.changesNothing("who is not there", Starts::camp, x -> Check.due("again", x.staff(0, 3, false), 1));
        Edges.changesNothing("who is elsewhere and not there", Starts::camp,
                x -> Check.due("again", x.staff(1, 0, false), 1));
        Edges.changesNothing("with eight leaders", Starts::most, x -> Check.due("again", x.staff(5, 7, false), 0));
    }

    private static void enough() {
        for (int kind = HALL; kind <= FIRE; kind++) {
            for (int children = 2; children <= 12; children++) {
                int needed = children / ENOUGH[kind] + (children % ENOUGH[kind] == 0 ? 0 : 1);
                for (int leaders = 0; leaders <= 5; leaders++) {
                    Badgewood x = planned(kind, children, leaders);
                    staffAll(x, leaders);
                    int due = leaders < needed ? Badgewood.TOO_FEW : Badgewood.LAWFUL;
                    Check.due(leaders + " for " + children + ", kind " + kind, x.why(0), due);
                }
            }
        }
    }

    private static void theFirstThatIsSo() {
        Badgewood x = Starts.outing(12, 1);
        x.troop(5, 20, 12);
        x.event(0, 1, FIRE, 5, 9, 2);
        x.staff(0, 0, true);
        Check.due("twelve children", x.why(0), Badgewood.TOO_FEW);
        for (int child = 0; child < 5; child++) {
            x.leave(child);
            Check.due("still more than six", x.why(0), Badgewood.TOO_FEW);
        }
        x.leave(5);
        Check.due("not vetted, without a permit", x.why(0), Badgewood.NOT_VETTED);
        for (int child = 6; child < 11; child++) {
            x.leave(child);
        }
        Check.due("also with one", x.why(0), Badgewood.NOT_VETTED);
        x.vet(0, 1, 5, 5);
        Check.due("without a permit, with one", x.why(0), Badgewood.NO_PERMIT);
        x.permit(0, FIRE, 5);
        Check.due("one with one", x.why(0), Badgewood.ALONE);
        x.join(0, 0);
        Check.due("one with two", x.why(0), Badgewood.LAWFUL);
        x.join(1, 1);
        x.leave(0);
        x.leave(11);
        x.vet(0, 1, 0, 0);
        Check.due("with none, though another troop has some", x.why(0), Badgewood.LAWFUL);
    }

    private static void noChildren() {
        for (int kind = HALL; kind <= FIRE; kind++) {
            Badgewood x = Starts.outing(0, 0);
            x.leader();
            x.event(0, 0, kind, 5, 9, 2);
            Check.due("no leaders", x.why(0), Badgewood.LAWFUL);
            x.staff(0, 0, true);
            Check.due("one who is neither vetted nor permitted", x.why(0), Badgewood.LAWFUL);
            x.join(x.child(8), 0);
            x.staff(0, 0, false);
            Check.due("a child has come", x.why(0), Badgewood.TOO_FEW);
            x.leave(0);
            Check.due("and has left", x.why(0), Badgewood.LAWFUL);
        }
    }

    private static void tooFew() {
        Badgewood x = planned(HALL, 8, 2);
        Check.due("none for eight", x.why(0), Badgewood.TOO_FEW);
        x.staff(0, 1, true);
        Check.due("one for eight", x.why(0), Badgewood.LAWFUL);
        x.join(x.child(8), 0);
        Check.due("one for nine", x.why(0), Badgewood.TOO_FEW);
        x.vet(1, 0, 0, 0);
        Check.due("ahead of not vetted", x.why(0), Badgewood.TOO_FEW);
        x.staff(0, 0, true);
        Check.due("also who is not vetted is one", x.why(0), Badgewood.NOT_VETTED);
        Check.due("none for one", planned(HALL, 1, 0).why(0), Badgewood.TOO_FEW);
        Badgewood waiting = Starts.queue(1, 12);
        waiting.leader();
        waiting.vet(0, 0, 0, 9999);
        waiting.event(0, 0, ROPES, 5, 9, 2);
        waiting.staff(0, 0, true);
        Check.due("who waits does not count", waiting.why(0), Badgewood.NO_PERMIT);
    }

    private static void notVetted() {
        for (int land = 0; land < 3; land++) {
            Badgewood x = Starts.outing(2, 0);
            x.leader();
            x.leader();
            x.event(0, land, HALL, 5, 9, 2);
            x.staff(0, 0, true);
            Check.due("for nothing", x.why(0), Badgewood.NOT_VETTED);
            x.vet(0, (land + 1) % 3, 0, 9999);
            x.vet(0, (land + 2) % 3, 0, 9999);
            Check.due("for the other lands", x.why(0), Badgewood.NOT_VETTED);
            x.vet(0, land, 6, 9999);
            Check.due("from the day behind it", x.why(0), Badgewood.NOT_VETTED);
            x.vet(0, land, 0, 4);
            Check.due("to the day ahead of it", x.why(0), Badgewood.NOT_VETTED);
            x.vet(0, land, 5, 5);
            Check.due("on its day", x.why(0), Badgewood.LAWFUL);
            x.staff(0, 1, true);
            Check.due("one of two is not", x.why(0), Badgewood.NOT_VETTED);
            x.vet(1, land, 0, 9999);
            Starts.goTo(x, 9);
            Check.due("both are, and its day is over", x.why(0), Badgewood.LAWFUL);
        }
    }

    private static void noPermit() {
        for (int kind = HALL; kind <= FIRE; kind++) {
            Badgewood x = Starts.outing(2, 3);
            x.event(0, 0, kind, 5, 9, 2);
            x.staff(0, 0, true);
            x.staff(0, 1, true);
            int without = kind == HALL ? Badgewood.LAWFUL : Badgewood.NO_PERMIT;
            Check.due("none", x.why(0), without);
            for (int other = WATER; other <= FIRE; other++) {
                x.permit(1, other, other == kind ? 4 : 9999);
                x.permit(2, other, 9999);
            }
            Check.due("for other kinds, or till the day ahead, or not there", x.why(0), without);
            if (kind != HALL) {
                x.permit(1, kind, 5);
            }
            Check.due("one of two, till that day", x.why(0), Badgewood.LAWFUL);
        }
    }

    private static void alone() {
        for (int kind = HALL; kind <= FIRE; kind++) {
            Badgewood x = planned(kind, 1, 2);
            x.staff(0, 1, true);
            Check.due("one and one", x.why(0), Badgewood.ALONE);
            x.staff(0, 0, true);
            Check.due("two and one", x.why(0), Badgewood.LAWFUL);
            x.staff(0, 1, false);
            Check.due("the other and one", x.why(0), Badgewood.ALONE);
            x.join(x.child(8), 0);
            Check.due("one and two", x.why(0), Badgewood.LAWFUL);
            x.leave(0);
            Check.due("one and the other", x.why(0), Badgewood.ALONE);
        }
    }

    private static void otherwiseLawful() {
        for (int kind = HALL; kind <= FIRE; kind++) {
            Badgewood x = planned(kind, 12, 8);
            staffAll(x, 8);
            Check.due("all leaders for as many as there may be", x.why(0), Badgewood.LAWFUL);
            Badgewood one = planned(kind, 1, 8);
            staffAll(one, 8);
            Check.due("all leaders for one", one.why(0), Badgewood.LAWFUL);
        }
    }

    private static void tellConstants(Sentences doc) {
        doc.section("Boxes");
        doc.says("The constants: `NONE = -1`: None.", () -> Check.due("NONE", Badgewood.NONE, -1));
        doc.says("`HALL = 0, WATER = 1, ROPES = 2, FIRE = 3`: Kinds of events.", () -> {
            int[] kinds = {Badgewood.HALL, Badgewood.WATER, Badgewood.ROPES, Badgewood.FIRE};
            for (int kind = 0; kind < 4; kind++) {
                Check.due("the kind", kinds[kind], kind);
            }
        });
        doc.says("`LAWFUL = 0, TOO_FEW = 1, NOT_VETTED = 2, NO_PERMIT = 3, ALONE = 4`: How an event is.", () -> {
            int[] ways = {
                Badgewood.LAWFUL, Badgewood.TOO_FEW, Badgewood.NOT_VETTED, Badgewood.NO_PERMIT, Badgewood.ALONE,
            };
            for (int way = 0; way < 5; way++) {
                Check.due("the way", ways[way], way);
            }
        });
        String[] calls = {
            "`troop`, `child`, `join`, `leave`, `patrol`, `duty`, `pass`, `season` the interface says: ---- troops,"
                    + " children.",
            "`leader`, `vet`, `permit`, `teach` the interface says: ---- leaders.",
            "`edition`, `begin`, `prove` the interface says: ---- badges.",
            "`event`, `staff`, `why`, `couldStaff` the interface says: ---- events.",
            "`boxes`, `pay`, `owed` the interface says: ---- boxes.",
            "`today`, `ofChild`, `ofTroop`, `earned`, `holds`, `lacks` the interface says: ---- asking.",
        };
        for (String called : calls) {
            doc.asksNothing("Ahead of the calls " + called);
        }
    }

    private static void tellEvent(Sentences doc) {
        doc.section("Promise 17");
        doc.says("Plans an event.", () -> {
            Badgewood x = Starts.camp();
            int event = x.event(0, 2, FIRE, 40, 22, 2);
            Check.due("nobody is told for it", x.staff(event, 0, false), 0);
            Check.due("for the children of the troop", x.why(event), Badgewood.TOO_FEW);
            x.permit(2, FIRE, 40);
            Check.due("in that land, of that kind, on that day", x.couldStaff(40, 22, 4), true);
            Check.due("an hour ahead of it nothing is", x.couldStaff(40, 21, 0), true);
            Check.due("in its first hour it is", x.couldStaff(40, 22, 0), false);
            Check.due("in its last hour it is", x.couldStaff(40, 23, 0), false);
            Check.due("not the hour behind, on the next day", x.couldStaff(41, 0, 0), true);
        });
        doc.says("`troop`: a troop", () -> {
            Edges.range(Check.INDEX, 0, 5, Starts::crowd, (x, troop) -> x.event(troop, 0, HALL, 5, 9, 1));
            Edges.offByOne(Check.INDEX, 0, 2, Starts::camp, (x, troop) -> x.event(troop, 0, HALL, 10, 9, 1));
        });
        doc.says("`land`: 0 to 2", () -> Edges.range(Check.INDEX, 0, 2, Starts::camp,
                (x, land) -> x.event(0, land, HALL, 10, 9, 1)));
        doc.says("`kind`: HALL to FIRE", () -> Edges.range(Check.ARGUMENT, HALL, FIRE, Starts::camp,
                (x, kind) -> x.event(0, 0, kind, 10, 9, 1)));
        doc.says("`day`: today to 9999", () -> {
            Edges.range(Check.ARGUMENT, 10, 9999, Starts::camp, (x, day) -> x.event(0, 0, HALL, day, 9, 1));
            Edges.range(Check.ARGUMENT, 0, 9999, Starts::crowd, (x, day) -> x.event(0, 0, HALL, day, 9, 1));
            Edges.range(Check.ARGUMENT, 9999, 9999, EventSentences::lastDay,
                    (x, day) -> x.event(0, 0, HALL, day, 9, 1));
        });
        doc.says("`hour`: 0 to 23", () -> Edges.range(Check.ARGUMENT, 0, 23, Starts::camp,
                (x, hour) -> x.event(0, 0, HALL, 10, hour, 1)));
        doc.says("`hours`: 1 to as many as the day has left", () -> {
            for (int hour = 0; hour < 24; hour++) {
                int from = hour;
                Edges.range(Check.ARGUMENT, 1, 24 - hour, Starts::camp,
                        (x, hours) -> x.event(0, 0, HALL, 10, from, hours));
            }
        });
        doc.says("Returns its number.", () -> {
            Check.due("the fourth", Starts.camp().event(0, 0, HALL, 10, 9, 1), 3);
            Badgewood x = Starts.crowd();
            for (int event = 0; event < 20; event++) {
                Check.due("the number", x.event(5, 0, HALL, 9999, 0, 24), event);
            }
        });
        doc.says("Throws `IndexOutOfBoundsException` if there is no such troop or land", () -> {
            Edges.farOff(Check.INDEX, 0, 2, Starts::camp, (x, troop) -> x.event(troop, 0, HALL, 10, 9, 1));
            Edges.farOff(Check.INDEX, 0, 2, Starts::camp, (x, land) -> x.event(0, land, HALL, 10, 9, 1));
        });
        doc.says("Throws `IllegalArgumentException` if another argument is out of its range",
                EventSentences::eventRefuses);
        doc.says("Throws `IllegalStateException` if there are 20", () -> {
            Badgewood x = Starts.crowd();
            for (int event = 0; event < 19; event++) {
                x.event(0, 0, HALL, 5, 9, 1);
            }
            Check.due("with nineteen", x.event(0, 0, HALL, 5, 9, 1), 19);
            Edges.refusedInVain("with twenty", Check.STATE, Starts::most, y -> y.event(0, 0, HALL, 5, 9, 1));
        });
    }

    private static Badgewood lastDay() {
        Badgewood x = Starts.outing(2, 1);
        Starts.goTo(x, 9999);
        return x;
    }

    private static void eventRefuses() {
        Edges.farOff(Check.ARGUMENT, HALL, FIRE, Starts::camp, (x, kind) -> x.event(0, 0, kind, 10, 9, 1));
        Edges.farOff(Check.ARGUMENT, 10, 9999, Starts::camp, (x, day) -> x.event(0, 0, HALL, day, 9, 1));
        Edges.farOff(Check.ARGUMENT, 0, 23, Starts::camp, (x, hour) -> x.event(0, 0, HALL, 10, hour, 1));
        Edges.farOff(Check.ARGUMENT, 1, 24, Starts::camp, (x, hours) -> x.event(0, 0, HALL, 10, 0, hours));
        Edges.farOff(Check.ARGUMENT, 1, 1, Starts::camp, (x, hours) -> x.event(0, 0, HALL, 10, 23, hours));
        Edges.refusedInVain("yesterday", Check.ARGUMENT, Starts::camp, x -> x.event(0, 0, HALL, 9, 9, 1));
        Edges.refusedInVain("beyond midnight", Check.ARGUMENT, Starts::camp, x -> x.event(0, 0, HALL, 10, 22, 3));
        Edges.refusedInVain("at midnight", Check.ARGUMENT, Starts::camp, x -> x.event(0, 0, HALL, 10, 24, 0));
    }

    private static void tellStaff(Sentences doc) {
        doc.section("Promise 18");
        doc.says("Tells that a leader is at an event, or not.", () -> {
            Badgewood x = planned(HALL, 8, 1);
            x.staff(0, 0, true);
            Check.due("is there", x.why(0), Badgewood.LAWFUL);
            x.staff(0, 0, false);
            Check.due("is not there", x.why(0), Badgewood.TOO_FEW);
        });
        doc.says("`event`: an event", () -> Edges.event((x, event) -> x.staff(event, 2, true)));
        doc.says("`leader`: a leader", () -> Edges.leader((x, leader) -> x.staff(2, leader, leader != 1)));
        doc.says("`is`: whether they are", () -> {
            Badgewood x = Starts.camp();
            Check.due("are", x.staff(0, 3, true), 2);
            Check.due("are not", x.staff(0, 3, false), 1);
        });
        doc.says("Returns how many leaders it has then.", () -> {
            Badgewood x = planned(HALL, 0, 8);
            for (int leader = 7; leader >= 0; leader--) {
                Check.due("one more", x.staff(0, leader, true), 8 - leader);
                Check.due("as many", x.staff(0, leader, true), 8 - leader);
            }
            for (int leader = 0; leader < 8; leader++) {
                Check.due("one fewer", x.staff(0, leader, false), 7 - leader);
                Check.due("as many", x.staff(0, leader, false), 7 - leader);
            }
        });
        doc.says("Throws `IndexOutOfBoundsException` if there is no such event or leader", () -> {
            Edges.farOff(Check.INDEX, 0, 2, Starts::camp, (x, event) -> x.staff(event, 3, true));
            Edges.farOff(Check.INDEX, 0, 2, Starts::camp, (x, event) -> x.staff(event, 3, false));
            Edges.farOff(Check.INDEX, 0, 3, Starts::camp, (x, leader) -> x.staff(2, leader, true));
            Edges.farOff(Check.INDEX, 0, 3, Starts::camp, (x, leader) -> x.staff(2, leader, false));
        });
        doc.says("Throws `IllegalStateException` if they would be there, and are at another event that has an hour in"
                + " common with it", () -> {
                    Edges.refusedInVain("the last hour of it", Check.STATE, Starts::camp, x -> x.staff(1, 0, true));
                    Edges.refusedInVain("the first hour of it", Check.STATE, Starts::camp, x -> x.staff(0, 1, true));
                    Edges.taken("would not be there", Starts::camp, x -> x.staff(1, 0, false));
                    Edges.taken("is at that very one", Starts::camp, x -> x.staff(0, 0, true));
                    Edges.taken("is at one on another day", Starts::camp, x -> x.staff(2, 1, true));
                    Edges.taken("is at none", Starts::camp, x -> x.staff(0, 3, true));
                });
    }

    private static void tellWhy(Sentences doc) {
        doc.section("Promise 19");
        doc.says("Returns how an event is, by its leaders.", () -> {
            Badgewood x = planned(WATER, 1, 2);
            x.leader();
            Check.due("by none", x.why(0), Badgewood.TOO_FEW);
            x.staff(0, 0, true);
            Check.due("by one", x.why(0), Badgewood.ALONE);
            x.staff(0, 1, true);
            Check.due("by two", x.why(0), Badgewood.LAWFUL);
            x.staff(0, 2, true);
            Check.due("by three", x.why(0), Badgewood.NOT_VETTED);
        });
        doc.says("`event`: an event", () -> Edges.event((x, event) -> x.why(event)));
        doc.says("Returns LAWFUL to ALONE.", () -> {
            Badgewood x = planned(ROPES, 1, 1);
            x.staff(0, 0, true);
            Check.due("alone", x.why(0), 4);
            x.permit(0, ROPES, NONE);
            Check.due("no permit", x.why(0), 3);
            x.vet(0, 0, 0, 0);
            Check.due("not vetted", x.why(0), 2);
            x.staff(0, 0, false);
            Check.due("too few", x.why(0), 1);
            x.leave(0);
            Check.due("lawful", x.why(0), 0);
        });
        doc.says("Throws `IndexOutOfBoundsException` if there is no such event",
                () -> Edges.farOff(Check.INDEX, 0, 2, Starts::camp, (x, event) -> x.why(event)));
    }

    private static void tellCouldStaff(Sentences doc) {
        doc.section("Promise 20");
        doc.says("Returns whether all events that go on in an hour could be LAWFUL, if of some leaders each were at one"
                + " of them at most, and nobody else, whoever was told for them, or for other events.",
                EventSentences::couldBeLawful);
        doc.says("`day`: 0 to 9999", () -> {
            Edges.range(Check.ARGUMENT, 0, 9999, Starts::camp, (x, day) -> x.couldStaff(day, 9, 1));
            Check.due("another day", Starts.camp().couldStaff(11, 9, 0), true);
            Check.due("the day itself", Starts.camp().couldStaff(12, 9, 0), false);
            Badgewood x = Starts.camp();
            Starts.goTo(x, 5000);
            Check.due("a day that is gone", x.couldStaff(12, 9, 0), false);
        });
        doc.says("`hour`: 0 to 23", () -> {
            Edges.range(Check.ARGUMENT, 0, 23, Starts::camp, (x, hour) -> x.couldStaff(15, hour, 1));
            for (int hour = 0; hour < 24; hour++) {
                Check.due("the hour " + hour, Starts.camp().couldStaff(15, hour, 0), hour < 20);
            }
        });
        doc.says("`them`: the leaders, as a set", () -> {
            Edges.range(Check.ARGUMENT, 0, 255, Starts::most, (x, them) -> x.couldStaff(1, 9, them));
            Edges.range(Check.ARGUMENT, 0, 15, Starts::camp, (x, them) -> x.couldStaff(12, 9, them));
            Edges.range(Check.ARGUMENT, 0, 0, Badgewood::new, (x, them) -> x.couldStaff(12, 9, them));
        });
        doc.says("Returns whether they could;", EventSentences::whetherTheyCould);
        doc.says("also if there are no such events.", () -> {
            Check.due("no events at all", new Badgewood().couldStaff(0, 0, 0), true);
            Badgewood x = Starts.camp();
            for (int them = 0; them < 16; them++) {
                Check.due("none in that hour", x.couldStaff(12, 8, them), true);
                Check.due("none behind them", x.couldStaff(12, 13, them), true);
                Check.due("none on that day", x.couldStaff(13, 9, them), true);
            }
        });
        doc.says("Throws `IllegalArgumentException` if day or hour is out of range, or them is below 0 or has a leader"
                + " that there is not", EventSentences::couldStaffRefuses);
        doc.says("Throws `IllegalStateException` if there are more than 3 such events",
                EventSentences::moreThanThree);
    }

    private static void couldBeLawful() {
        Badgewood x = Starts.camp();
        Check.due("in the hour of the first alone", x.couldStaff(12, 9, 1), true);
        Check.due("by another than who was told for it", x.couldStaff(12, 9, 8), true);
        Check.due("both in an hour, each with one", x.couldStaff(12, 11, 0b1001), true);
        Check.due("not one at both", x.couldStaff(12, 11, 0b0001), false);
        Check.due("nobody else, though one was told", x.couldStaff(12, 11, 0b1000), false);
        Check.due("nor who has a permit and is not among them", x.couldStaff(12, 11, 0b1010), false);
        Check.due("in the hour of the second alone", x.couldStaff(12, 12, 1), true);
        Check.due("nothing is told by asking", x.staff(1, 1, true), 1);
        x.event(1, 0, HALL, 12, 8, 2);
        x.staff(3, 3, true);
        Check.due("who was told for another", x.couldStaff(12, 11, 0b1001), true);
    }

    /** Three events in one hour, two of them for five children with HALL and one of the kind, and so many leaders. */
    private static Badgewood threeAtOnce(int kind, int leaders) {
        Badgewood x = Starts.outing(5, leaders);
        x.troop(5, 20, 12);
        for (int child = 0; child < 12; child++) {
            x.join(x.child(8), 1);
        }
        x.event(0, 0, HALL, 5, 9, 2);
        x.event(1, 0, kind, 5, 10, 2);
        x.event(0, 0, HALL, 5, 10, 1);
        return x;
    }

    /** So many of the eight leaders, those with the highest numbers, as a set. */
    private static int highest(int leaders) {
        return 255 >> 8 - leaders << 8 - leaders;
    }

    private static void whetherTheyCould() {
        int[] needed = {4, 5, 6, 4};
        for (int kind = HALL; kind <= FIRE; kind++) {
            Badgewood x = threeAtOnce(kind, 8);
            Check.due("without a permit", x.couldStaff(5, 10, 255), kind == HALL);
            for (int leader = 1; leader < 8; leader++) {
                if (kind != HALL) {
                    x.permit(leader - 1, kind, 4);
                    x.permit(leader, kind, 5);
                }
                boolean isThere = kind == HALL || leader >= 8 - needed[kind];
                Check.due("just enough, " + leader + " with a permit", x.couldStaff(5, 10, highest(needed[kind])),
                        isThere);
                Check.due("one too few", x.couldStaff(5, 10, highest(needed[kind] - 1)), false);
            }
            vettedOnes(x, kind, needed[kind]);
        }
        oneChildNeedsTwo();
    }

    /** Leader 7 alone has a permit, and is vetted a day late. */
    private static void vettedOnes(Badgewood x, int kind, int needed) {
        x.vet(7, 0, 6, 9999);
        Check.due("a permit without being vetted", x.couldStaff(5, 10, 255), kind == HALL);
        for (int leader = needed; leader < 7; leader++) {
            x.vet(leader, 0, 0, 4);
        }
        if (kind != HALL) {
            x.permit(needed - 1, kind, 5);
        }
        Check.due("just enough are vetted", x.couldStaff(5, 10, 255), true);
        x.vet(0, 1, 0, 9999);
        x.vet(0, 0, 0, 4);
        Check.due("one too few are", x.couldStaff(5, 10, 255), false);
    }

    private static void oneChildNeedsTwo() {
        Badgewood x = planned(HALL, 1, 8);
        Check.due("nobody", x.couldStaff(5, 9, 0), false);
        for (int leader = 0; leader < 8; leader++) {
            Check.due("alone", x.couldStaff(5, 9, 1 << leader), false);
            Check.due("with another", x.couldStaff(5, 9, 1 << leader | 1 << (leader + 3) % 8), true);
        }
        x.event(0, 0, FIRE, 5, 10, 2);
        Check.due("three for two events", x.couldStaff(5, 10, 0b00010110), false);
        Check.due("four for two events", x.couldStaff(5, 10, 0b10010110), true);
        x.leave(0);
        Check.due("no child, nobody", x.couldStaff(5, 10, 0), true);
    }

    private static void couldStaffRefuses() {
        Edges.farOff(Check.ARGUMENT, 0, 9999, Starts::camp, (x, day) -> x.couldStaff(day, 9, 1));
        Edges.farOff(Check.ARGUMENT, 0, 23, Starts::camp, (x, hour) -> x.couldStaff(12, hour, 1));
        Edges.farOff(Check.ARGUMENT, 0, 15, Starts::camp, (x, them) -> x.couldStaff(12, 9, them));
        Edges.farOff(Check.ARGUMENT, 0, 255, Starts::most, (x, them) -> x.couldStaff(1, 9, them));
        for (int leader = 4; leader < 32; leader++) {
            int other = 1 << leader;
            Edges.refused("the leader " + leader, Check.ARGUMENT, Starts::camp, x -> x.couldStaff(12, 9, other));
            Edges.refused("with others", Check.ARGUMENT, Starts::camp, x -> x.couldStaff(12, 9, other | 3));
        }
        Edges.refused("where nothing goes on", Check.ARGUMENT, Badgewood::new, x -> x.couldStaff(0, 0, 1));
        Edges.refusedInVain("the first leader that there is not", Check.ARGUMENT, Starts::camp,
                x -> x.couldStaff(12, 9, 16));
        Edges.refusedInVain("below", Check.ARGUMENT, Starts::camp, x -> x.couldStaff(12, 9, -1));
    }

    private static void moreThanThree() {
        Badgewood x = threeAtOnce(HALL, 8);
        Check.due("three", x.couldStaff(5, 10, 255), true);
        x.event(0, 0, HALL, 5, 11, 1);
        x.event(0, 0, HALL, 6, 10, 1);
        Check.due("a fourth in another hour, one on another day", x.couldStaff(5, 10, 255), true);
        x.event(0, 0, HALL, 5, 10, 1);
        Check.refuses("four", Check.STATE, () -> x.couldStaff(5, 10, 255));
        Check.due("three in the hour behind, or fewer", x.couldStaff(5, 11, 255), true);
        x.pass(400);
        Check.refuses("four on a day that is gone", Check.STATE, () -> x.couldStaff(5, 10, 255));
        Edges.refusedInVain("four, three without children", Check.STATE, EventSentences::fourAtOnce,
                y -> y.couldStaff(12, 11, 15));
        Edges.refused("twenty", Check.STATE, EventSentences::twentyAtOnce, y -> y.couldStaff(5, 9, 1));
    }

    private static Badgewood fourAtOnce() {
        Badgewood x = Starts.camp();
        for (int event = 0; event < 2; event++) {
            x.event(2, 2, FIRE, 12, 11, 1);
        }
        return x;
    }

    private static Badgewood twentyAtOnce() {
        Badgewood x = Starts.outing(0, 1);
        for (int event = 0; event < 20; event++) {
            x.event(0, 0, HALL, 5, 0, 24);
        }
        return x;
    }
}
