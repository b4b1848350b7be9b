/** The sentences about leaders: terms, and promises 10 to 13. */
final class LeaderSentences {
    private static final int NONE = Badgewood.NONE;
    private static final int WATER = Badgewood.WATER;
    private static final int FIRE = Badgewood.FIRE;

    private LeaderSentences() {
    }

    static void tell(Sentences doc) {
        doc.section("Badges");
        doc.asksNothing("Leaders, events");
        doc.says("Leaders are numbered from 0, at most 8;", () -> {
            Badgewood x = new Badgewood();
            for (int leader = 0; leader < 8; leader++) {
                Check.due("the number", x.leader(), leader);
            }
            Check.refuses("a ninth", Check.STATE, () -> x.leader());
        });
        doc.says("for each of the lands 0 to 2 a leader is vetted from one day to another one, both counted, at first"
                + " not at all;", LeaderSentences::vettedByLands);
        doc.says("a leader has permits for WATER, ROPES and FIRE, each till a day, that with it, at first none.",
                LeaderSentences::permitsTillADay);
        tellLeader(doc);
        tellVet(doc);
        tellPermit(doc);
        tellTeach(doc);
    }

    /** Two children, two leaders, and an event of the kind on each of the days 0 to 4, in the land. */
    private static Badgewood fiveDays(int land, int kind) {
        Badgewood x = Starts.outing(2, 0);
        x.leader();
        x.leader();
        for (int day = 0; day < 5; day++) {
            x.event(0, land, kind, day, 9, 1);
        }
        return x;
    }

    /** On which of the five days the leader could lead all that goes on, as a set. */
    private static int daysOf(Badgewood x, int leader) {
        int days = 0;
        for (int day = 0; day < 5; day++) {
            days |= x.couldStaff(day, 9, 1 << leader) ? 1 << day : 0;
        }
        return days;
    }

    private static void vettedByLands() {
        for (int land = 0; land < 3; land++) {
            Badgewood x = fiveDays(land, Badgewood.HALL);
            Check.due("at first not", daysOf(x, 0), 0);
            x.vet(0, land, 1, 3);
            Check.due("the first and the last with them", daysOf(x, 0), 0b01110);
            Check.due("the other leader", daysOf(x, 1), 0);
            for (int other = 0; other < 3; other++) {
                x.vet(1, other, 0, other == land ? 0 : 9999);
            }
            Check.due("each land its own", daysOf(x, 1), 0b00001);
            Check.due("the first leader still", daysOf(x, 0), 0b01110);
        }
    }

    private static void permitsTillADay() {
        for (int kind = WATER; kind <= FIRE; kind++) {
            Badgewood x = fiveDays(0, kind);
            x.vet(0, 0, 0, 9999);
            x.vet(1, 0, 0, 9999);
            Check.due("at first none", daysOf(x, 0), 0);
            x.permit(0, kind, 2);
            Check.due("that day with it", daysOf(x, 0), 0b00111);
            Check.due("the other leader", daysOf(x, 1), 0);
            for (int other = WATER; other <= FIRE; other++) {
                x.permit(1, other, other == kind ? 0 : 9999);
            }
            Check.due("each kind its own", daysOf(x, 1), 0b00001);
        }
    }

    private static void tellLeader(Sentences doc) {
        doc.section("Promise 10");
        doc.says("Tells a leader.", () -> {
            Badgewood x = Starts.camp();
            int leader = x.leader();
            Check.due("teaches nothing", x.teach(leader, 1), 0);
            Check.due("has no permit", x.permit(leader, WATER, 5), NONE);
            Check.refuses("is not vetted", Check.STATE, () -> x.prove(8, 0, leader));
            Check.due("is at no event", x.staff(0, leader, false), 1);
        });
        doc.says("Returns their number.", () -> {
            Badgewood x = new Badgewood();
            for (int leader = 0; leader < 8; leader++) {
                Check.due("the number", x.leader(), leader);
            }
            Check.due("of the fifth", Starts.camp().leader(), 4);
        });
        doc.says("Throws `IllegalStateException` if there are 8", () -> {
            Badgewood x = Starts.outing(0, 7);
            Check.due("with seven", x.leader(), 7);
            Edges.refusedInVain("with eight", Check.STATE, Starts::most, y -> y.leader());
        });
    }

    private static void tellVet(Sentences doc) {
        doc.section("Promise 11");
        doc.says("Tells from when to when a leader is vetted for a land, in place of what was told.", () -> {
            Badgewood x = fiveDays(1, Badgewood.HALL);
            x.vet(0, 1, 0, 1);
            Check.due("told", daysOf(x, 0), 0b00011);
            x.vet(0, 1, 3, 4);
            Check.due("in place of it, not with it", daysOf(x, 0), 0b11000);
            x.vet(0, 1, 2, 2);
            Check.due("one day", daysOf(x, 0), 0b00100);
            x.vet(0, 2, 0, 9999);
            Check.due("another land", daysOf(x, 0), 0b00100);
        });
        doc.says("`leader`: a leader", () -> Edges.leader((x, leader) -> x.vet(leader, 2, 0, 9999)));
        doc.says("`land`: 0 to 2",
                () -> Edges.range(Check.INDEX, 0, 2, Starts::camp, (x, land) -> x.vet(0, land, 0, 1)));
        doc.says("`from`: 0 to 9999", () -> {
            Edges.range(Check.ARGUMENT, 0, 9999, Starts::camp, (x, from) -> x.vet(0, 0, from, 9999));
            for (int from = 0; from < 5; from++) {
                Badgewood x = fiveDays(0, Badgewood.HALL);
                x.vet(0, 0, from, 9999);
                Check.due("from " + from, daysOf(x, 0), 31 >> from << from);
            }
        });
        doc.says("`to`: from to 9999", () -> {
            int[] froms = {0, 1, 5000, 9999};
            for (int from : froms) {
                Edges.range(Check.ARGUMENT, from, 9999, Starts::camp, (x, to) -> x.vet(0, 0, from, to));
            }
            for (int to = 0; to < 5; to++) {
                Badgewood x = fiveDays(0, Badgewood.HALL);
                x.vet(0, 0, 0, to);
                Check.due("to " + to, daysOf(x, 0), (2 << to) - 1);
            }
        });
        doc.says("Throws `IndexOutOfBoundsException` if there is no such leader or land", () -> {
            Edges.farOff(Check.INDEX, 0, 3, Starts::camp, (x, leader) -> x.vet(leader, 0, 0, 0));
            Edges.farOff(Check.INDEX, 0, 2, Starts::camp, (x, land) -> x.vet(0, land, 0, 0));
        });
        doc.says("Throws `IllegalArgumentException` if from or to is out of range", () -> {
            Edges.farOff(Check.ARGUMENT, 0, 9999, Starts::camp, (x, from) -> x.vet(0, 0, from, 9999));
            Edges.farOff(Check.ARGUMENT, 7, 9999, Starts::camp, (x, to) -> x.vet(0, 0, 7, to));
            Edges.refusedInVain("both above", Check.ARGUMENT, Starts::camp, x -> x.vet(0, 0, 10000, 10000));
            Edges.refusedInVain("both below", Check.ARGUMENT, Starts::camp, x -> x.vet(0, 0, -1, -1));
            Edges.refusedInVain("to ahead of from", Check.ARGUMENT, Starts::camp, x -> x.vet(0, 0, 12, 11));
        });
    }

    private static void tellPermit(Sentences doc) {
        doc.section("Promise 12");
        doc.says("Tells till when a leader has a permit, in place of what was told.", () -> {
            Badgewood x = fiveDays(0, FIRE);
            x.vet(0, 0, 0, 9999);
            x.permit(0, FIRE, 3);
            Check.due("told", daysOf(x, 0), 0b01111);
            x.permit(0, FIRE, 1);
            Check.due("fewer days in place of it", daysOf(x, 0), 0b00011);
            x.permit(0, FIRE, 2);
            Check.due("more days in place of it", daysOf(x, 0), 0b00111);
        });
        doc.says("`leader`: a leader", () -> Edges.leader((x, leader) -> x.permit(leader, FIRE, 5)));
        doc.says("`kind`: WATER to FIRE", () -> Edges.range(Check.ARGUMENT, WATER, FIRE, Starts::camp,
                (x, kind) -> x.permit(0, kind, 5)));
        doc.says("`till`: the day;", () -> {
            Edges.range(Check.ARGUMENT, NONE, 9999, Starts::camp, (x, till) -> x.permit(0, FIRE, till));
            for (int till = 0; till < 5; till++) {
                Badgewood x = fiveDays(0, FIRE);
                x.vet(0, 0, 0, 9999);
                x.permit(0, FIRE, till);
                Check.due("till " + till, daysOf(x, 0), (2 << till) - 1);
            }
        });
        doc.says("NONE for none", () -> {
            Badgewood x = fiveDays(0, FIRE);
            x.vet(0, 0, 0, 9999);
            x.permit(0, FIRE, 9999);
            Check.due("with it", daysOf(x, 0), 31);
            x.permit(0, FIRE, NONE);
            Check.due("not even on the first day", daysOf(x, 0), 0);
        });
        doc.says("Returns what was told before, NONE for none.", () -> {
            Badgewood x = Starts.camp();
            int leader = x.leader();
            for (int kind = WATER; kind <= FIRE; kind++) {
                Check.due("none was, for the kind " + kind, x.permit(leader, kind, 10 * kind), NONE);
            }
            for (int kind = WATER; kind <= FIRE; kind++) {
                Check.due("that for the kind " + kind, x.permit(leader, kind, 9999), 10 * kind);
            }
            Check.due("none was", x.permit(0, FIRE, 0), NONE);
            Check.due("the first day", x.permit(0, FIRE, 9999), 0);
            Check.due("the last day", x.permit(0, FIRE, NONE), 9999);
            Check.due("none was told", x.permit(0, FIRE, 7), NONE);
            Check.due("the same again", x.permit(0, FIRE, 7), 7);
            Check.due("of another kind", x.permit(0, WATER, 7), 9999);
            Check.due("of another leader", x.permit(1, Badgewood.ROPES, 7), 20);
        });
        doc.says("Throws `IndexOutOfBoundsException` if there is no such leader",
                () -> Edges.farOff(Check.INDEX, 0, 3, Starts::camp, (x, leader) -> x.permit(leader, WATER, 5)));
        doc.says("Throws `IllegalArgumentException` if kind or till is out of range", () -> {
            Edges.farOff(Check.ARGUMENT, WATER, FIRE, Starts::camp, (x, kind) -> x.permit(0, kind, 5));
            Edges.farOff(Check.ARGUMENT, NONE, 9999, Starts::camp, (x, till) -> x.permit(0, WATER, till));
            Edges.refusedInVain("HALL", Check.ARGUMENT, Starts::camp, x -> x.permit(0, Badgewood.HALL, 5));
            Edges.refusedInVain("HALL, none", Check.ARGUMENT, Starts::camp, x -> x.permit(0, Badgewood.HALL, NONE));
        });
    }

    private static void tellTeach(Sentences doc) {
        doc.section("Promise 13");
        doc.says("Tells which skills a leader teaches.", () -> {
            for (int skill = 0; skill < 16; skill++) {
                Badgewood x = Starts.pair();
                int taught = skill;
                x.teach(0, 65535 ^ 1 << skill);
                Check.refuses("all but " + skill, Check.STATE, () -> x.prove(0, taught, 0));
                x.teach(0, 1 << skill);
                Check.due(skill + " alone", x.prove(0, taught, 0), 0);
                Check.refuses("no other", Check.STATE, () -> x.prove(0, (taught + 1) % 16, 0));
            }
        });
        doc.says("`leader`: a leader", () -> Edges.leader((x, leader) -> x.teach(leader, 3)));
        doc.says("`skills`: the set", () -> {
            Edges.range(Check.ARGUMENT, 0, 65535, Starts::camp, (x, skills) -> x.teach(0, skills));
            Badgewood x = Starts.pair();
            x.teach(0, 0);
            for (int skill = 0; skill < 16; skill++) {
                int taught = skill;
                Check.refuses("none of the empty set", Check.STATE, () -> x.prove(0, taught, 0));
            }
            x.teach(0, 65535);
            for (int skill = 0; skill < 16; skill++) {
                Check.due("each of the full set", x.prove(0, skill, 0), 0);
            }
        });
        doc.says("Returns the one before, empty at first.", () -> {
            Badgewood x = Starts.camp();
            int leader = x.leader();
            Check.due("empty at first", x.teach(leader, 65535), 0);
            Check.due("all", x.teach(leader, 0), 65535);
            Check.due("empty again", x.teach(leader, 0x8000), 0);
            Check.due("in place of it, not with it", x.teach(leader, 1), 0x8000);
            Check.due("the lowest", x.teach(leader, 1), 1);
            Check.due("another's", x.teach(1, 1), 15);
        });
        doc.says("Throws `IndexOutOfBoundsException` if there is no such leader",
                () -> Edges.farOff(Check.INDEX, 0, 3, Starts::camp, (x, leader) -> x.teach(leader, 1)));
        doc.says("Throws `IllegalArgumentException` if skills is below 0, or has others than 0 to 15", () -> {
            Edges.farOff(Check.ARGUMENT, 0, 65535, Starts::camp, (x, skills) -> x.teach(0, skills));
            for (int skill = 16; skill < 32; skill++) {
                int other = skill;
                Edges.refused("the skill " + skill, Check.ARGUMENT, Starts::camp, x -> x.teach(0, 1 << other));
                Edges.refused("with others", Check.ARGUMENT, Starts::camp, x -> x.teach(0, 1 << other | 5));
            }
            Edges.refusedInVain("below", Check.ARGUMENT, Starts::camp, x -> x.teach(0, -1));
            Edges.refusedInVain("above", Check.ARGUMENT, Starts::camp, x -> x.teach(0, 65536));
        });
    }
}
