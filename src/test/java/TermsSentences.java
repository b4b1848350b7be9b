import java.util.List;

/** The sentences ahead of the promises that hold for all calls. */
final class TermsSentences {
    private static final int NONE = Badgewood.NONE;

    private TermsSentences() {
    }

    static void tell(Sentences doc) {
        doc.section("What it is");
        doc.asksNothing("A movement of the young: troops by ages with room and those who wait, children who move up by"
                + " seasons, patrols with jobs in turn, badges by editions that follow from proofs and days, leaders"
                + " who are vetted by lands and have permits, events that are lawful or not, whether all events of an"
                + " hour could be staffed, and boxes that are sold.");
        doc.says("An object is used for at most 512 calls after it has been made;", TermsSentences::the512thCall);
        doc.says("what later calls answer is free.", TermsSentences::laterCallsThrowNothingElse);
        doc.section("Terms");
        doc.says("A call that throws an exception changes nothing.", TermsSentences::refusedInVain);
        doc.says("IndexOutOfBoundsException: there is no such child, troop, leader, land, badge, skill or event.",
                TermsSentences::noSuchNumbers);
        doc.says("IllegalArgumentException: another argument is out of its range.", TermsSentences::outOfRange);
        doc.says("IllegalStateException: as the method says.", TermsSentences::states);
        doc.says("If several apply, the one that the throws clause names first is thrown.", TermsSentences::order);
        doc.says("Sets are bits, 1 for the number 0.", TermsSentences::sets);
        doc.says("Days are numbered from 0, to 9999.", TermsSentences::days);
        doc.section("Not promised");
        doc.asksNothing("How the state is held inside the object is free, as are the speed of each call, the text of"
                + " toString and the behaviour of equals and hashCode.");
        doc.asksNothing("Use of one object from several threads at once is not promised to be safe.");
        doc.asksNothing("Nothing is promised beyond the answers and state changes described above, and nothing about an"
                + " object after its 512th call.");
    }

    private static void the512thCall() {
        Badgewood older = new Badgewood();
        older.child(17);
        for (int call = 2; call < 512; call++) {
            older.season();
        }
        Check.due("an age", older.ofChild(0, 0), 17 + 510);

        Badgewood x = Starts.queue(1, 2);
        for (int call = 6; call < 512; call += 2) {
            int out = call / 2 % 2 == 1 ? 0 : 1;
            Check.due("in turn", x.leave(out), 1 - out);
            Check.due("behind", x.join(out, 0), 1);
        }
        Check.due("one waits", x.ofTroop(0, true), 1);
    }

    private static void laterCallsThrowNothingElse() {
        Badgewood x = Starts.most();
        int refused = 0;
        for (int call = 0; call < 3000; call++) {
            try {
                x.season();
                x.join(call % 24, call % 6);
            } catch (IllegalStateException e) {
                refused++;
            }
        }
        Check.due("some are refused", refused > 0, true);
    }

    /** A call with one argument left open, which has to be from 0 to one below the count, or from least to greatest. */
    private record Open(String what, int least, int greatest, Edges.Pick pick) {
    }

    private record Call(String what, Edges.Use use) {
    }

    /** With camp(): nine children, three troops, four leaders, three events. */
    private static List<Open> numbers() {
        return List.of(
                new Open("join, child", 0, 8, (x, n) -> x.join(n, 0)),
                new Open("join, troop", 0, 2, (x, n) -> x.join(7, n)),
                new Open("leave, child", 0, 8, (x, n) -> x.leave(n)),
                new Open("patrol, child", 0, 8, (x, n) -> x.patrol(n, 0)),
                new Open("duty, troop", 0, 2, (x, n) -> x.duty(n, 0)),
                new Open("vet, leader", 0, 3, (x, n) -> x.vet(n, 0, 0, 0)),
                new Open("vet, land", 0, 2, (x, n) -> x.vet(0, n, 0, 0)),
                new Open("permit, leader", 0, 3, (x, n) -> x.permit(n, Badgewood.WATER, 0)),
                new Open("teach, leader", 0, 3, (x, n) -> x.teach(n, 1)),
                new Open("edition, badge", 0, 7, (x, n) -> x.edition(n, 0, 0, 0, NONE, 0, 0)),
                new Open("begin, child", 0, 8, (x, n) -> x.begin(n, 2)),
                new Open("begin, badge", 0, 7, (x, n) -> x.begin(8, n)),
                new Open("prove, child", 0, 8, (x, n) -> x.prove(n, 9, 0)),
                new Open("prove, skill", 0, 15, (x, n) -> x.prove(8, n, 0)),
                new Open("prove, leader", 0, 3, (x, n) -> x.prove(8, 9, n)),
                new Open("event, troop", 0, 2, (x, n) -> x.event(n, 0, 0, 10, 9, 1)),
                new Open("event, land", 0, 2, (x, n) -> x.event(0, n, 0, 10, 9, 1)),
                new Open("staff, event", 0, 2, (x, n) -> x.staff(n, 3, true)),
                new Open("staff, leader", 0, 3, (x, n) -> x.staff(2, n, false)),
                new Open("why, event", 0, 2, (x, n) -> x.why(n)),
                new Open("boxes, child", 0, 8, (x, n) -> x.boxes(n, 1)),
                new Open("pay, child", 0, 8, (x, n) -> x.pay(n, 1)),
                new Open("owed, troop", 0, 2, (x, n) -> x.owed(n)),
                new Open("ofChild, child", 0, 8, (x, n) -> x.ofChild(n, 0)),
                new Open("ofTroop, troop", 0, 2, (x, n) -> x.ofTroop(n, true)),
                new Open("earned, child", 0, 8, (x, n) -> x.earned(n, 0)),
                new Open("earned, badge", 0, 7, (x, n) -> x.earned(0, n)),
                new Open("holds, child", 0, 8, (x, n) -> x.holds(n, 0)),
                new Open("holds, badge", 0, 7, (x, n) -> x.holds(0, n)),
                new Open("lacks, child", 0, 8, (x, n) -> x.lacks(n, 0)),
                new Open("lacks, badge", 0, 7, (x, n) -> x.lacks(0, n)));
    }

    private static List<Open> ranges() {
        return List.of(
                new Open("troop, from", 5, 20, (x, n) -> x.troop(n, 20, 1)),
                new Open("troop, to", 9, 20, (x, n) -> x.troop(9, n, 1)),
                new Open("troop, room", 1, 12, (x, n) -> x.troop(9, 9, n)),
                new Open("child, age", 5, 17, (x, n) -> x.child(n)),
                new Open("patrol, patrol", 0, 3, (x, n) -> x.patrol(0, n)),
                new Open("duty, day", 0, 9999, (x, n) -> x.duty(0, n)),
                new Open("pass, days", 1, 400, (x, n) -> x.pass(n)),
                new Open("vet, from", 0, 9999, (x, n) -> x.vet(0, 0, n, 9999)),
                new Open("vet, to", 7, 9999, (x, n) -> x.vet(0, 0, 7, n)),
                new Open("permit, kind", 1, 3, (x, n) -> x.permit(0, n, 5)),
                new Open("permit, till", NONE, 9999, (x, n) -> x.permit(0, 1, n)),
                new Open("teach, skills", 0, 65535, (x, n) -> x.teach(0, n)),
                new Open("edition, must", 0, 65535, (x, n) -> x.edition(4, n, 0, 0, NONE, 0, 0)),
                new Open("edition, choice", 0, 65535, (x, n) -> x.edition(4, 0, n, 0, NONE, 0, 0)),
                new Open("edition, many", 0, 3, (x, n) -> x.edition(4, 0, 7, n, NONE, 0, 0)),
                new Open("edition, before", NONE, 3, (x, n) -> x.edition(4, 0, 0, 0, n, 0, 0)),
                new Open("edition, gap", 0, 400, (x, n) -> x.edition(4, 0, 0, 0, 3, n, 0)),
                new Open("edition, lasts", 0, 4000, (x, n) -> x.edition(4, 0, 0, 0, NONE, 0, n)),
                new Open("event, kind", 0, 3, (x, n) -> x.event(0, 0, n, 10, 9, 1)),
                new Open("event, day", 10, 9999, (x, n) -> x.event(0, 0, 0, n, 9, 1)),
                new Open("event, hour", 0, 23, (x, n) -> x.event(0, 0, 0, 10, n, 1)),
                new Open("event, hours", 1, 15, (x, n) -> x.event(0, 0, 0, 10, 9, n)),
                new Open("couldStaff, day", 0, 9999, (x, n) -> x.couldStaff(n, 9, 1)),
                new Open("couldStaff, hour", 0, 23, (x, n) -> x.couldStaff(10, n, 1)),
                new Open("couldStaff, them", 0, 15, (x, n) -> x.couldStaff(10, 9, n)),
                new Open("boxes, boxes", 1, 99, (x, n) -> x.boxes(0, n)),
                new Open("pay, coins", 1, 396, (x, n) -> x.pay(0, n)),
                new Open("ofChild, what", 0, 5, (x, n) -> x.ofChild(0, n)));
    }

    private static List<Call> refusedByState() {
        return List.of(
                new Call("join: is in it", x -> x.join(0, 0)),
                new Call("join: is in another", x -> x.join(0, 2)),
                new Call("join: waits", x -> x.join(3, 2)),
                new Call("join: too young", x -> x.join(8, 0)),
                new Call("join: too old", x -> x.join(7, 0)),
                new Call("leave: in none", x -> x.leave(7)),
                new Call("patrol: in none", x -> x.patrol(7, 0)),
                new Call("patrol: waits", x -> x.patrol(3, 0)),
                new Call("edition: three", x -> x.edition(2, 0, 0, 0, NONE, 0, 0)),
                new Call("begin: no edition", x -> x.begin(0, 3)),
                new Call("begin: begun", x -> x.begin(0, 0)),
                new Call("prove: not vetted", x -> x.prove(0, 9, 2)),
                new Call("prove: does not teach", x -> x.prove(0, 9, 1)),
                new Call("prove: teaches nothing", x -> x.prove(0, 9, 3)),
                new Call("prove: proven", x -> x.prove(0, 1, 0)),
                new Call("staff: elsewhere", x -> x.staff(1, 0, true)),
                new Call("boxes: in none", x -> x.boxes(7, 1)),
                new Call("boxes: waits", x -> x.boxes(3, 1)),
                new Call("boxes: owes to another", x -> x.boxes(6, 1)),
                new Call("pay: owes nothing", x -> x.pay(7, 1)),
                new Call("pay: owes fewer", x -> x.pay(0, 41)),
                new Call("lacks: not begun", x -> x.lacks(0, 2)));
    }

    private static List<Call> refusedByMost() {
        return List.of(
                new Call("troop: six", x -> x.troop(5, 20, 12)),
                new Call("child: twenty-four", x -> x.child(8)),
                new Call("leader: eight", x -> x.leader()),
                new Call("event: twenty", x -> x.event(0, 0, 0, 5, 9, 1)));
    }

    private static Badgewood fourAtOnce() {
        Badgewood x = Starts.camp();
        x.event(2, 2, Badgewood.FIRE, 12, 11, 1);
        x.event(2, 2, Badgewood.FIRE, 12, 10, 2);
        return x;
    }

    private static void refusedInVain() {
        for (Open open : numbers()) {
            Edges.changesNothing(open.what, Starts::camp, refused(Check.INDEX, open));
        }
        for (Open open : ranges()) {
            Edges.changesNothing(open.what, Starts::camp, refused(Check.ARGUMENT, open));
        }
        for (Call call : refusedByState()) {
            Edges.changesNothing(call.what, Starts::camp, refused(Check.STATE, call.use));
        }
        for (Call call : refusedByMost()) {
            Edges.changesNothing(call.what, Starts::most, refused(Check.STATE, call.use));
        }
        Edges.changesNothing("pass", () -> Starts.late(399), refused(Check.STATE, x -> x.pass(400)));
        Edges.changesNothing("couldStaff", TermsSentences::fourAtOnce,
                refused(Check.STATE, x -> x.couldStaff(12, 11, 15)));
    }

    private static Edges.Use refused(Class<? extends RuntimeException> refusal, Open open) {
        return x -> {
            Check.refuses(open.what, refusal, () -> open.pick.with(x, open.least - 1));
            Check.refuses(open.what, refusal, () -> open.pick.with(x, open.greatest + 1));
        };
    }

    private static Edges.Use refused(Class<? extends RuntimeException> refusal, Edges.Use use) {
        return x -> Check.refuses("refused", refusal, () -> use.on(x));
    }

    private static void noSuchNumbers() {
        for (Open open : numbers()) {
            Edges.farOff(Check.INDEX, open.least, open.greatest, Starts::camp, open.pick);
        }
    }

    private static void outOfRange() {
        for (Open open : ranges()) {
            Edges.farOff(Check.ARGUMENT, open.least, open.greatest, Starts::camp, open.pick);
        }
    }

    private static void states() {
        for (Call call : refusedByState()) {
            Edges.refused(call.what, Check.STATE, Starts::camp, call.use);
        }
        for (Call call : refusedByMost()) {
            Edges.refused(call.what, Check.STATE, Starts::most, call.use);
        }
        Edges.refused("pass", Check.STATE, () -> Starts.late(399), x -> x.pass(400));
        Edges.refused("couldStaff", Check.STATE, TermsSentences::fourAtOnce, x -> x.couldStaff(12, 11, 15));
    }

    private static void order() {
        for (Call call : numberAheadOfRange()) {
            Edges.refused(call.what, Check.INDEX, Starts::camp, call.use);
        }
        for (Call call : numberAheadOfState()) {
            Edges.refused(call.what, Check.INDEX, Starts::camp, call.use);
        }
        for (Call call : rangeAheadOfState()) {
            Edges.refused(call.what, Check.ARGUMENT, Starts::camp, call.use);
        }
        rangesAheadOfMost();
        Edges.offByOne(Check.INDEX, 0, 5, Starts::most, (x, troop) -> x.event(troop, 0, 0, 5, 9, 1));
        Edges.offByOne(Check.INDEX, 0, 2, Starts::most, (x, land) -> x.event(0, land, 0, 5, 9, 1));
        Edges.offByOne(Check.ARGUMENT, 1, 400, () -> Starts.late(0), (x, days) -> x.pass(days));
        Edges.offByOne(Check.ARGUMENT, 0, 15, TermsSentences::fourAtOnce, (x, them) -> x.couldStaff(12, 11, them));
    }

    /** Every argument, where there are as many as there may be. */
    private static void rangesAheadOfMost() {
        Edges.offByOne(Check.ARGUMENT, 5, 20, Starts::most, (x, from) -> x.troop(from, 20, 1));
        Edges.offByOne(Check.ARGUMENT, 9, 20, Starts::most, (x, to) -> x.troop(9, to, 1));
        Edges.offByOne(Check.ARGUMENT, 1, 12, Starts::most, (x, room) -> x.troop(9, 9, room));
        Edges.offByOne(Check.ARGUMENT, 5, 17, Starts::most, (x, age) -> x.child(age));
        Edges.offByOne(Check.ARGUMENT, 0, 3, Starts::most, (x, kind) -> x.event(0, 0, kind, 5, 9, 1));
        Edges.offByOne(Check.ARGUMENT, 0, 9999, Starts::most, (x, day) -> x.event(0, 0, 0, day, 9, 1));
        Edges.offByOne(Check.ARGUMENT, 0, 23, Starts::most, (x, hour) -> x.event(0, 0, 0, 5, hour, 1));
        Edges.offByOne(Check.ARGUMENT, 1, 15, Starts::most, (x, hours) -> x.event(0, 0, 0, 5, 9, hours));
        Edges.offByOne(Check.ARGUMENT, 0, 65535, Starts::camp, (x, must) -> x.edition(2, must, 0, 0, NONE, 0, 0));
        Edges.offByOne(Check.ARGUMENT, 0, 65535, Starts::camp, (x, choice) -> x.edition(2, 0, choice, 0, NONE, 0, 0));
        Edges.offByOne(Check.ARGUMENT, 0, 3, Starts::camp, (x, many) -> x.edition(2, 0, 7, many, NONE, 0, 0));
        Edges.offByOne(Check.ARGUMENT, NONE, 1, Starts::camp, (x, before) -> x.edition(2, 0, 0, 0, before, 0, 0));
        Edges.offByOne(Check.ARGUMENT, 0, 400, Starts::camp, (x, gap) -> x.edition(2, 0, 0, 0, 1, gap, 0));
        Edges.offByOne(Check.ARGUMENT, 0, 4000, Starts::camp, (x, lasts) -> x.edition(2, 0, 0, 0, NONE, 0, lasts));
        Edges.refused("edition, in common", Check.ARGUMENT, Starts::camp, x -> x.edition(2, 1, 1, 0, NONE, 0, 0));
    }

    private static List<Call> numberAheadOfRange() {
        return List.of(
                new Call("patrol", x -> x.patrol(9, 4)),
                new Call("duty", x -> x.duty(3, -1)),
                new Call("vet, leader", x -> x.vet(4, 0, -1, 5)),
                new Call("vet, land", x -> x.vet(0, 3, 5, 4)),
                new Call("permit", x -> x.permit(4, Badgewood.HALL, -2)),
                new Call("teach", x -> x.teach(4, -1)),
                new Call("edition", x -> x.edition(8, -1, -1, -1, 8, -1, -1)),
                new Call("edition, below", x -> x.edition(-1, 0, 0, 0, -2, 0, 4001)),
                new Call("event, troop", x -> x.event(3, 0, 4, 9, 24, 0)),
                new Call("event, land", x -> x.event(0, 3, 4, 9, 24, 0)),
                new Call("boxes", x -> x.boxes(9, 0)),
                new Call("pay", x -> x.pay(9, 397)),
                new Call("ofChild", x -> x.ofChild(9, 6)));
    }

    private static List<Call> numberAheadOfState() {
        return List.of(
                new Call("join, who is in", x -> x.join(0, 3)),
                new Call("join, who waits", x -> x.join(3, -1)),
                new Call("begin, no edition", x -> x.begin(9, 3)),
                new Call("prove, not vetted, no child", x -> x.prove(9, 9, 2)),
                new Call("prove, not vetted, no skill", x -> x.prove(0, 16, 2)),
                new Call("prove, proven, no leader", x -> x.prove(0, 0, 4)),
                new Call("staff", x -> x.staff(3, 0, true)),
                new Call("lacks", x -> x.lacks(9, 2)));
    }

    private static List<Call> rangeAheadOfState() {
        return List.of(
                new Call("patrol, in none", x -> x.patrol(7, 4)),
                new Call("boxes, in none", x -> x.boxes(7, 100)),
                new Call("boxes, owes to another", x -> x.boxes(6, 0)),
                new Call("pay, owes nothing", x -> x.pay(7, 397)));
    }

    private static void sets() {
        Badgewood x = Starts.outing(2, 8);
        x.edition(0, 0x8001, 0x4002, 1, NONE, 0, 0);
        x.begin(0, 0);
        Check.due("what is lacking", x.lacks(0, 0), 0x8001);
        x.teach(0, 1);
        Check.refuses("1 is not the skill 1", Check.STATE, () -> x.prove(0, 1, 0));
        Check.due("1 is the skill 0", x.prove(0, 0, 0), 0);
        Check.due("what is lacking now", x.lacks(0, 0), 0x8000);
        x.teach(7, 0x8000);
        Check.refuses("the highest is not the skill 14", Check.STATE, () -> x.prove(0, 14, 7));
        Check.due("the highest is the skill 15", x.prove(0, 15, 7), 0);
        x.teach(7, 0x4000);
        Check.due("the other set", x.prove(0, 14, 7), 1);
        x.event(0, 0, Badgewood.WATER, 1, 9, 1);
        x.permit(0, Badgewood.WATER, 1);
        Check.due("1 is the leader 0", x.couldStaff(1, 9, 1), true);
        Check.due("2 is not", x.couldStaff(1, 9, 2), false);
        x.permit(0, Badgewood.WATER, 0);
        x.permit(7, Badgewood.WATER, 1);
        Check.due("128 is the leader 7", x.couldStaff(1, 9, 128), true);
        Check.due("64 is not", x.couldStaff(1, 9, 64), false);
    }

    private static void days() {
        Badgewood x = Starts.outing(2, 1);
        Check.due("the first", x.today(), 0);
        x.edition(0, 0, 0, 0, NONE, 0, 1);
        x.begin(0, 0);
        Check.due("earned on the first", x.earned(0, 0), 0);
        x.event(0, 0, Badgewood.FIRE, 0, 0, 24);
        x.event(0, 0, Badgewood.FIRE, 9999, 0, 24);
        x.permit(0, Badgewood.FIRE, 0);
        Check.due("could be on the first", x.couldStaff(0, 0, 1), true);
        Check.due("a permit till the first", x.couldStaff(9999, 23, 1), false);
        x.permit(0, Badgewood.FIRE, 9999);
        Check.due("could be on the last", x.couldStaff(9999, 23, 1), true);
        Starts.goTo(x, 9999);
        Check.due("the last", x.today(), 9999);
        Check.refuses("none behind it", Check.STATE, () -> x.pass(1));
        x.begin(1, 0);
        Check.due("earned on the last", x.earned(1, 0), 9999);
        Check.due("held on the last", x.holds(1, 0), true);
        Check.due("a job on the last", x.duty(0, 9999), 1);
        Check.refuses("no job behind it", Check.ARGUMENT, () -> x.duty(0, 10000));
        Check.due("planned on the last", x.event(0, 0, Badgewood.HALL, 9999, 0, 1), 2);
        Check.refuses("none planned behind it", Check.ARGUMENT, () -> x.event(0, 0, Badgewood.HALL, 10000, 0, 1));
    }
}
