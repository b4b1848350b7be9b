/** The sentences about badges: terms, and promises 14 to 16 and 27 to 29. */
final class BadgeSentences {
    private static final int NONE = Badgewood.NONE;

    private BadgeSentences() {
    }

    static void tell(Sentences doc) {
        doc.section("Badges");
        doc.says("There are the badges 0 to 7, and the skills 0 to 15.", BadgeSentences::badgesAndSkills);
        doc.says("A badge has editions, numbered from 0, at most 3: each asks for a set of skills, and for so many of"
                + " another set, perhaps for a badge with a lower number that has to be earned, with a gap of days;",
                BadgeSentences::editionsAskFor);
        doc.says("and it lasts so many days, 0 for ever.", BadgeSentences::lasts);
        doc.says("A child begins a badge once, by the latest edition of then.", BadgeSentences::begunOnce);
        doc.says("A skill is proven by a child once, by a leader who teaches it, and is vetted for some land on that"
                + " day;", BadgeSentences::provenOnce);
        doc.says("it counts for all badges, begun ahead of that or later.", BadgeSentences::countsForAll);
        doc.says("A badge that was begun is earned on the first day that is not ahead of: the day on which it was"
                + " begun;", BadgeSentences::notAheadOfBeginning);
        doc.says("those on which the skills that it asks for were proven;", BadgeSentences::notAheadOfTheSkills);
        doc.says("that on which so many of the other set were;", BadgeSentences::notAheadOfSoMany);
        doc.says("and the day on which the other badge was earned, with the gap behind it.",
                BadgeSentences::notAheadOfTheOther);
        doc.says("It is earned then for ever;", BadgeSentences::earnedForEver);
        doc.says("it is held from that day on, as many days as it lasts, that day with them.",
                BadgeSentences::heldFrom);
        tellEdition(doc);
        tellBegin(doc);
        tellProve(doc);
        tellEarned(doc);
        tellHolds(doc);
        tellLacks(doc);
    }

    /** One edition of badge 0, and child 0 has begun it; leader 0 may attest all. */
    private static Badgewood begun(int must, int choice, int many, int lasts) {
        Badgewood x = Starts.pair();
        x.edition(0, must, choice, many, NONE, 0, lasts);
        x.begin(0, 0);
        return x;
    }

    private static void badgesAndSkills() {
        Edges.range(Check.INDEX, 0, 7, Starts::pair, (x, badge) -> x.edition(badge, 0, 0, 0, NONE, 0, 0));
        Edges.range(Check.INDEX, 0, 15, Starts::pair, (x, skill) -> x.prove(0, skill, 0));
        Badgewood x = Starts.pair();
        for (int badge = 0; badge < 8; badge++) {
            x.edition(badge, 3 << 2 * badge, 0, 0, NONE, 0, 0);
            x.begin(0, badge);
        }
        for (int skill = 0; skill < 16; skill++) {
            Check.due("each badge by its two skills", x.prove(0, skill, 0), (skill + 1) / 2);
        }
    }

    private static void editionsAskFor() {
        Badgewood x = Starts.pair();
        for (int edition = 0; edition < 3; edition++) {
            Check.due("its number", x.edition(2, 1 << edition, 0x60, 1, 1, 2, 0), edition);
        }
        Check.refuses("a fourth", Check.STATE, () -> x.edition(2, 0, 0, 0, NONE, 0, 0));
        Check.due("another badge counts for itself", x.edition(1, 0, 0, 0, NONE, 0, 0), 0);
        x.begin(0, 2);
        Check.due("the set of skills", x.lacks(0, 2), 4);
        x.prove(0, 2, 0);
        Check.due("some of another set is wanting", x.earned(0, 2), NONE);
        x.prove(0, 5, 0);
        Check.due("the other badge is wanting", x.earned(0, 2), NONE);
        x.begin(0, 1);
        x.pass(1);
        Check.due("the gap is wanting", x.earned(0, 2), NONE);
        x.pass(1);
        Check.due("nothing is wanting", x.earned(0, 2), 2);
    }

    private static void lasts() {
        int[] lengths = {1, 2, 365, 4000};
        for (int length : lengths) {
            Badgewood x = begun(0, 0, 0, length);
            Starts.goTo(x, length - 1);
            Check.due("the last of its days " + length, x.holds(0, 0), true);
            x.pass(1);
            Check.due("the day behind " + length, x.holds(0, 0), false);
        }
        Badgewood x = begun(0, 0, 0, 0);
        Check.due("for ever, the first day", x.holds(0, 0), true);
        Starts.goTo(x, 9999);
        Check.due("for ever, the last day", x.holds(0, 0), true);
    }

    private static void begunOnce() {
        Badgewood x = Starts.pair();
        x.child(8);
        x.child(8);
        for (int edition = 0; edition < 3; edition++) {
            int skills = 1 << edition;
            x.edition(0, skills, 0, 0, NONE, 0, 0);
            Check.due("the latest", x.begin(edition, 0), edition);
            for (int child = 0; child <= edition; child++) {
                int beginner = child;
                Check.refuses("not again", Check.STATE, () -> x.begin(beginner, 0));
                Check.due("by that of then", x.lacks(child, 0), 1 << child);
            }
        }
        x.prove(0, 0, 0);
        Check.due("earned by that of then", x.earned(0, 0), 0);
        Check.refuses("not again, though it is earned", Check.STATE, () -> x.begin(0, 0));
    }

    private static void provenOnce() {
        for (int land = 0; land < 3; land++) {
            Badgewood x = Starts.pair();
            x.leader();
            x.teach(1, 0b11);
            x.vet(1, land, 2, 3);
            Starts.goTo(x, 1);
            Check.refuses("a day early", Check.STATE, () -> x.prove(0, 0, 1));
            x.pass(1);
            Check.due("the first day", x.prove(0, 0, 1), 0);
            Check.refuses("twice by the same", Check.STATE, () -> x.prove(0, 0, 1));
            Check.refuses("twice by another", Check.STATE, () -> x.prove(0, 0, 0));
            Check.refuses("does not teach it", Check.STATE, () -> x.prove(0, 2, 1));
            x.pass(1);
            Check.due("the last day", x.prove(0, 1, 1), 0);
            x.child(8);
            x.pass(1);
            Check.refuses("a day late", Check.STATE, () -> x.prove(1, 0, 1));
            Check.due("another child, by another leader", x.prove(1, 0, 0), 0);
        }
    }

    private static void countsForAll() {
        Badgewood x = Starts.pair();
        x.edition(0, 1, 0, 0, NONE, 0, 0);
        x.edition(1, 1, 0, 0, NONE, 0, 0);
        x.edition(2, 0, 3, 1, NONE, 0, 0);
        x.edition(3, 1, 0, 0, NONE, 0, 0);
        x.begin(0, 0);
        x.begin(0, 2);
        x.pass(3);
        Check.due("two that were begun", x.prove(0, 0, 0), 2);
        x.pass(3);
        x.begin(0, 1);
        Check.due("one that is begun later", x.earned(0, 1), 6);
        x.edition(4, 1, 0, 0, NONE, 0, 0);
        x.begin(0, 4);
        Check.due("one whose edition comes later", x.earned(0, 4), 6);
        Check.due("not one that was not begun", x.earned(0, 3), NONE);
    }

    private static void notAheadOfBeginning() {
        Badgewood x = Starts.pair();
        x.edition(0, 1, 0, 0, NONE, 0, 0);
        x.edition(1, 0, 0, 0, NONE, 0, 0);
        x.edition(2, 0, 0, 0, 1, 0, 0);
        x.prove(0, 0, 0);
        x.begin(0, 1);
        x.pass(5);
        Check.due("not begun", x.earned(0, 0), NONE);
        x.begin(0, 0);
        x.begin(0, 2);
        Check.due("what it asks for was there", x.earned(0, 0), 5);
        Check.due("the other was earned already", x.earned(0, 2), 5);
        Check.due("nothing is asked", x.earned(0, 1), 0);
    }

    private static void notAheadOfTheSkills() {
        Badgewood x = begun(0x8101, 0, 0, 0);
        x.pass(2);
        x.prove(0, 15, 0);
        x.prove(0, 1, 0);
        x.pass(2);
        x.prove(0, 0, 0);
        Check.due("one is wanting", x.earned(0, 0), NONE);
        x.pass(2);
        x.prove(0, 8, 0);
        Check.due("the last of them", x.earned(0, 0), 6);
        Badgewood all = begun(65535, 0, 0, 0);
        for (int skill = 0; skill < 16; skill++) {
            Check.due("not by fifteen", all.earned(0, 0), NONE);
            all.pass(1);
            all.prove(0, skill, 0);
        }
        Check.due("by sixteen", all.earned(0, 0), 16);
    }

    private static void notAheadOfSoMany() {
        for (int many = 0; many <= 3; many++) {
            Badgewood x = begun(0, 0x8060, many, 0);
            int[] skills = {15, 7, 5, 6};
            int[] there = {1, 1, 2, 3};
            for (int i = 0; i < skills.length; i++) {
                x.pass(1);
                x.prove(0, skills[i], 0);
                Check.due(many + " of the set", x.earned(0, 0) == NONE, there[i] < many);
            }
            int[] days = {0, 1, 3, 4};
            Check.due("the day on which there were " + many, x.earned(0, 0), days[many]);
        }
        Badgewood all = begun(0, 65535, 16, 0);
        for (int skill = 0; skill < 16; skill++) {
            Check.due("all are asked for", all.earned(0, 0), NONE);
            all.prove(0, skill, 0);
        }
        Check.due("all are there", all.earned(0, 0), 0);
    }

    private static void notAheadOfTheOther() {
        int[] gaps = {0, 1, 400};
        for (int gap : gaps) {
            Badgewood x = Starts.pair();
            x.edition(6, 1, 0, 0, NONE, 0, 1);
            x.edition(7, 2, 0, 0, 6, gap, 0);
            x.begin(0, 6);
            x.begin(0, 7);
            x.prove(0, 1, 0);
            x.pass(3);
            Check.due("the other is not earned", x.earned(0, 7), NONE);
            x.prove(0, 0, 0);
            Check.due("the gap has to pass", x.earned(0, 7), gap == 0 ? 3 : NONE);
            if (gap > 0) {
                Starts.goTo(x, 3 + gap - 1);
                Check.due("a day early", x.earned(0, 7), NONE);
                x.pass(1);
            }
            Check.due("behind the gap", x.earned(0, 7), 3 + gap);
        }
        lowestOther();
    }

    /** Also badge 0 may be the other one, and one that is not begun is not earned. */
    private static void lowestOther() {
        Badgewood x = Starts.pair();
        x.edition(0, 0, 0, 0, NONE, 0, 0);
        x.edition(1, 0, 0, 0, 0, 0, 0);
        x.begin(0, 1);
        x.pass(50);
        Check.due("the other was not begun", x.earned(0, 1), NONE);
        x.begin(0, 0);
        Check.due("begun and earned", x.earned(0, 1), 50);
    }

    private static void earnedForEver() {
        Badgewood x = begun(1, 0, 0, 1);
        x.prove(0, 0, 0);
        x.edition(0, 0xFF, 0, 0, NONE, 0, 1);
        x.vet(0, 0, 9999, 9999);
        x.teach(0, 0);
        x.season();
        Starts.goTo(x, 9999);
        Check.due("earned still", x.earned(0, 0), 0);
        Check.due("counted still", x.ofChild(0, 4), 1);
        Check.due("held no more", x.holds(0, 0), false);
    }

    private static void heldFrom() {
        Badgewood x = begun(1, 0, 0, 3);
        x.pass(5);
        Check.due("ahead of it", x.holds(0, 0), false);
        x.prove(0, 0, 0);
        for (int day = 5; day < 8; day++) {
            Check.due("on " + day, x.holds(0, 0), true);
            x.pass(1);
        }
        Check.due("three days are over", x.holds(0, 0), false);
        Badgewood later = Starts.pair();
        later.edition(0, 0, 0, 0, NONE, 0, 0);
        later.edition(1, 0, 0, 0, 0, 2, 1);
        later.begin(0, 0);
        later.begin(0, 1);
        later.pass(1);
        Check.due("ahead of a day that is to come", later.holds(0, 1), false);
        later.pass(1);
        Check.due("that day", later.holds(0, 1), true);
        later.pass(1);
        Check.due("behind that day", later.holds(0, 1), false);
    }

    private static void tellEdition(Sentences doc) {
        doc.section("Promise 14");
        doc.says("Adds an edition of a badge.", () -> {
            Badgewood x = Starts.camp();
            Check.refuses("none by now", Check.STATE, () -> x.begin(8, 7));
            x.edition(7, 6, 0, 0, NONE, 0, 0);
            x.begin(8, 7);
            Check.due("what it asks for", x.lacks(8, 7), 6);
            x.edition(7, 8, 0, 0, NONE, 0, 0);
            Check.due("what the one before asks for", x.lacks(8, 7), 6);
        });
        doc.says("`badge`: 0 to 7", () -> Edges.range(Check.INDEX, 0, 7, Starts::pair,
                (x, badge) -> x.edition(badge, 0, 0, 0, NONE, 0, 0)));
        doc.says("`must`: the skills that it asks for", BadgeSentences::must);
        doc.says("`choice`: the other set, with none of them", BadgeSentences::choice);
        doc.says("`many`: 0 to as many as choice has", BadgeSentences::many);
        doc.says("`before`: a badge with a lower number, or NONE", () -> {
            for (int badge = 0; badge < 8; badge++) {
                int higher = badge;
                Edges.range(Check.ARGUMENT, NONE, badge - 1, Starts::pair,
                        (x, before) -> x.edition(higher, 0, 0, 0, before, 0, 0));
            }
        });
        doc.says("`gap`: 0 to 400;", () -> Edges.range(Check.ARGUMENT, 0, 400, Starts::pair,
                (x, gap) -> x.edition(1, 0, 0, 0, 0, gap, 0)));
        doc.says("any number without before, where it does not matter", BadgeSentences::anyGap);
        doc.says("`lasts`: 0 to 4000", () -> Edges.range(Check.ARGUMENT, 0, 4000, Starts::pair,
                (x, lasts) -> x.edition(1, 0, 0, 0, 0, 0, lasts)));
        doc.says("Returns its number, among those of the badge.", () -> {
            Badgewood x = new Badgewood();
            for (int edition = 0; edition < 3; edition++) {
                for (int badge = 0; badge < 8; badge++) {
                    Check.due("of badge " + badge, x.edition(badge, 0, 0, 0, NONE, 0, 0), edition);
                }
            }
        });
        doc.says("Throws `IndexOutOfBoundsException` if there is no such badge", () -> Edges.farOff(Check.INDEX, 0, 7,
                Starts::camp, (x, badge) -> x.edition(badge, 0, 0, 0, NONE, 0, 0)));
        doc.says("Throws `IllegalArgumentException` if another argument is out of its range, before with them, a set is"
                + " below 0 or has others than 0 to 15, or both have one in common", BadgeSentences::editionRefuses);
        doc.says("Throws `IllegalStateException` if there are 3", () -> {
            Edges.taken("with two", Starts::camp, x -> x.edition(1, 0, 0, 0, NONE, 0, 0));
            Edges.refusedInVain("with three", Check.STATE, Starts::camp, x -> x.edition(2, 0, 0, 0, NONE, 0, 0));
        });
    }

    private static void must() {
        Edges.range(Check.ARGUMENT, 0, 65535, Starts::pair, (x, must) -> x.edition(0, must, 0, 0, NONE, 0, 0));
        for (int skill = 0; skill < 16; skill++) {
            Badgewood x = begun(1 << skill, 0, 0, 0);
            for (int other = 0; other < 16; other++) {
                if (other != skill) {
                    Check.due("not by another", x.prove(0, other, 0), 0);
                }
            }
            Check.due("by that skill", x.prove(0, skill, 0), 1);
        }
        Check.due("the empty set", begun(0, 0, 0, 0).earned(0, 0), 0);
    }

    private static void choice() {
        Edges.range(Check.ARGUMENT, 0, 65535, Starts::pair, (x, choice) -> x.edition(0, 0, choice, 0, NONE, 0, 0));
        for (int skill = 0; skill < 16; skill++) {
            int common = 1 << skill;
            Edges.refused("the skill " + skill + " in common", Check.ARGUMENT, Starts::pair,
                    x -> x.edition(0, common, common, 0, NONE, 0, 0));
            Edges.refused("among others", Check.ARGUMENT, Starts::pair,
                    x -> x.edition(0, 65535, common, 1, NONE, 0, 0));
            Edges.taken("all but that one", Starts::pair, x -> x.edition(0, 65535 ^ common, common, 1, NONE, 0, 0));
            Badgewood x = begun(0, common, 1, 0);
            for (int other = 0; other < 16; other++) {
                if (other != skill) {
                    Check.due("not by another", x.prove(0, other, 0), 0);
                }
            }
            Check.due("by that skill", x.prove(0, skill, 0), 1);
        }
    }

    private static void many() {
        int choice = 0;
        for (int count = 0; count <= 16; count++) {
            int set = choice;
            Edges.range(Check.ARGUMENT, 0, count, Starts::pair, (x, many) -> x.edition(0, 0, set, many, NONE, 0, 0));
            choice |= 1 << count * 5 % 16;
        }
    }

    private static void anyGap() {
        int[] gaps = {Integer.MIN_VALUE, -401, -1, 0, 400, 401, 9999, Integer.MAX_VALUE};
        for (int gap : gaps) {
            Badgewood x = Starts.pair();
            x.pass(3);
            Check.due("taken", x.edition(4, 1, 0, 0, NONE, gap, 2), 0);
            x.begin(0, 4);
            x.pass(1);
            x.prove(0, 0, 0);
            Check.due("does not matter", x.earned(0, 4), 4);
        }
    }

    private static void editionRefuses() {
        Edges.farOff(Check.ARGUMENT, 0, 65535, Starts::camp, (x, must) -> x.edition(4, must, 0, 0, NONE, 0, 0));
        Edges.farOff(Check.ARGUMENT, 0, 65535, Starts::camp, (x, choice) -> x.edition(4, 0, choice, 0, NONE, 0, 0));
        Edges.farOff(Check.ARGUMENT, 0, 3, Starts::camp, (x, many) -> x.edition(4, 0, 0x8011, many, NONE, 0, 0));
        Edges.farOff(Check.ARGUMENT, NONE, 3, Starts::camp, (x, before) -> x.edition(4, 0, 0, 0, before, 0, 0));
        Edges.farOff(Check.ARGUMENT, 0, 400, Starts::camp, (x, gap) -> x.edition(4, 0, 0, 0, 3, gap, 0));
        Edges.farOff(Check.ARGUMENT, 0, 4000, Starts::camp, (x, lasts) -> x.edition(4, 0, 0, 0, NONE, 0, lasts));
        for (int skill = 16; skill < 32; skill++) {
            int other = 1 << skill;
            Edges.refused("must has " + skill, Check.ARGUMENT, Starts::pair,
                    x -> x.edition(4, other, 0, 0, NONE, 0, 0));
            Edges.refused("choice has " + skill, Check.ARGUMENT, Starts::pair,
                    x -> x.edition(4, 0, other | 1, 0, NONE, 0, 0));
        }
        Edges.refusedInVain("before itself", Check.ARGUMENT, Starts::camp, x -> x.edition(4, 0, 0, 0, 4, 0, 0));
        Edges.refusedInVain("before a higher one", Check.ARGUMENT, Starts::camp, x -> x.edition(4, 0, 0, 0, 5, 0, 0));
        Edges.refusedInVain("before no badge", Check.ARGUMENT, Starts::camp, x -> x.edition(7, 0, 0, 0, 8, 0, 0));
        Edges.refusedInVain("one in common", Check.ARGUMENT, Starts::camp, x -> x.edition(4, 3, 6, 1, NONE, 0, 0));
        Edges.refusedInVain("many of none", Check.ARGUMENT, Starts::camp, x -> x.edition(4, 3, 0, 1, NONE, 0, 0));
    }

    private static void tellBegin(Sentences doc) {
        doc.section("Promise 15");
        doc.says("Lets a child begin a badge.", () -> {
            Badgewood x = Starts.camp();
            Check.refuses("not begun", Check.STATE, () -> x.lacks(8, 0));
            x.begin(8, 0);
            Check.due("begun", x.lacks(8, 0), 3);
            Check.refuses("not by another child", Check.STATE, () -> x.lacks(7, 0));
            Check.refuses("nor another badge", Check.STATE, () -> x.lacks(8, 1));
        });
        doc.says("`child`: a child", () -> {
            Edges.range(Check.INDEX, 0, 23, Starts::most, (x, child) -> x.begin(child, 7));
            Edges.offByOne(Check.INDEX, 0, 8, Starts::camp, (x, child) -> x.begin(child, 2));
        });
        doc.says("`badge`: 0 to 7",
                () -> Edges.range(Check.INDEX, 0, 7, BadgeSentences::allEditions, (x, badge) -> x.begin(0, badge)));
        doc.says("Returns the edition.", () -> {
            Badgewood x = Starts.camp();
            Check.due("the first of one", x.begin(8, 0), 0);
            Check.due("the second of two", x.begin(8, 1), 1);
            Check.due("the third of three", x.begin(8, 2), 2);
        });
        doc.says("Throws `IndexOutOfBoundsException` if there is no such child or badge", () -> {
            Edges.farOff(Check.INDEX, 0, 8, Starts::camp, (x, child) -> x.begin(child, 2));
            Edges.farOff(Check.INDEX, 0, 7, Starts::camp, (x, badge) -> x.begin(8, badge));
        });
        doc.says("Throws `IllegalStateException` if there is no edition, or it was begun", () -> {
            Edges.refusedInVain("no edition", Check.STATE, Starts::camp, x -> x.begin(0, 3));
            Edges.refusedInVain("begun", Check.STATE, Starts::camp, x -> x.begin(0, 1));
            Edges.refusedInVain("begun and earned", Check.STATE, Starts::camp, x -> x.begin(0, 0));
            Edges.taken("by another child", Starts::camp, x -> x.begin(1, 0));
        });
    }

    private static Badgewood allEditions() {
        Badgewood x = Starts.pair();
        for (int badge = 0; badge < 8; badge++) {
            x.edition(badge, 1, 0, 0, NONE, 0, 0);
        }
        return x;
    }

    private static void tellProve(Sentences doc) {
        doc.section("Promise 16");
        doc.says("Lets a child prove a skill, today.", () -> {
            Badgewood x = Starts.camp();
            x.begin(8, 2);
            x.pass(7);
            Check.due("lacks it", x.lacks(8, 2), 1);
            x.prove(8, 0, 0);
            Check.due("lacks it no more", x.lacks(8, 2), 0);
            Check.due("today", x.earned(8, 2), 17);
        });
        doc.says("`child`: a child", () -> Edges.child((x, child) -> x.prove(child, 9, 0)));
        doc.says("`skill`: 0 to 15", () -> Edges.range(Check.INDEX, 0, 15, Starts::pair,
                (x, skill) -> x.prove(0, skill, 0)));
        doc.says("`leader`: a leader", () -> {
            Edges.range(Check.INDEX, 0, 7, Starts::most, (x, leader) -> x.prove(0, 9, leader));
            Edges.offByOne(Check.INDEX, 0, 3, Starts::camp, (x, leader) -> x.prove(8, 9, leader));
        });
        doc.says("Returns how many badges the child has earned by now.", BadgeSentences::howManyEarned);
        doc.says("Throws `IndexOutOfBoundsException` if there is no such child, skill or leader", () -> {
            Edges.farOff(Check.INDEX, 0, 8, Starts::camp, (x, child) -> x.prove(child, 9, 0));
            Edges.farOff(Check.INDEX, 0, 15, Starts::camp, (x, skill) -> x.prove(8, skill, 0));
            Edges.farOff(Check.INDEX, 0, 3, Starts::camp, (x, leader) -> x.prove(8, 9, leader));
        });
        doc.says("Throws `IllegalStateException` if the leader is vetted for no land today, or does not teach it, or it"
                + " was proven", () -> {
                    Edges.refusedInVain("vetted later", Check.STATE, Starts::camp, x -> x.prove(8, 9, 2));
                    Edges.refusedInVain("does not teach it", Check.STATE, Starts::camp, x -> x.prove(8, 4, 1));
                    Edges.refusedInVain("teaches nothing", Check.STATE, Starts::camp, x -> x.prove(8, 0, 3));
                    Edges.refusedInVain("proven", Check.STATE, Starts::camp, x -> x.prove(0, 0, 0));
                    Edges.refusedInVain("proven, by another", Check.STATE, Starts::camp, x -> x.prove(0, 1, 0));
                    Badgewood x = Starts.camp();
                    Starts.goTo(x, 40);
                    Check.due("vetted that day for the last land", x.prove(8, 9, 2), 0);
                    Starts.goTo(x, 50);
                    Check.due("vetted that day for the middle one", x.prove(8, 0, 1), 0);
                    x.pass(1);
                    Check.refuses("vetted for none any more", Check.STATE, () -> x.prove(8, 1, 1));
                });
    }

    private static void howManyEarned() {
        Badgewood x = allEditions();
        x.child(8);
        x.edition(7, 1, 0, 0, 6, 5, 0);
        for (int badge = 0; badge < 8; badge++) {
            x.begin(0, badge);
        }
        Check.due("none", x.prove(0, 1, 0), 0);
        Check.due("seven at once, not one that is to come", x.prove(0, 0, 0), 7);
        x.pass(4);
        Check.due("still to come", x.prove(0, 2, 0), 7);
        x.pass(1);
        Check.due("all eight", x.prove(0, 3, 0), 8);
        Check.due("of that child alone", x.prove(1, 0, 0), 0);
    }

    private static void tellEarned(Sentences doc) {
        doc.section("Promise 27");
        doc.says("Returns on which day a badge was earned.", () -> {
            Badgewood x = begun(1, 0, 0, 0);
            x.pass(5);
            x.prove(0, 0, 0);
            x.pass(5);
            Check.due("not today, but that day", x.earned(0, 0), 5);
        });
        doc.says("`child`: a child", () -> Edges.child((x, child) -> x.earned(child, 0)));
        doc.says("`badge`: 0 to 7",
                () -> Edges.range(Check.INDEX, 0, 7, Starts::camp, (x, badge) -> x.earned(0, badge)));
        doc.says("Returns the day;", () -> {
            Check.due("the first", begun(0, 0, 0, 0).earned(0, 0), 0);
            Badgewood x = Starts.late(0);
            x.child(8);
            x.edition(7, 0, 0, 0, NONE, 0, 0);
            x.begin(0, 7);
            Check.due("the last", x.earned(0, 7), 9999);
        });
        doc.says("NONE if it is not earned by now.", () -> {
            Badgewood x = Starts.camp();
            Check.due("no edition", x.earned(0, 7), NONE);
            Check.due("not begun", x.earned(0, 2), NONE);
            Check.due("skills are wanting", x.earned(0, 1), NONE);
            Check.due("by another child", x.earned(5, 0), NONE);
            x.edition(3, 0, 0, 0, 0, 1, 0);
            x.begin(0, 3);
            Check.due("tomorrow", x.earned(0, 3), NONE);
            x.pass(1);
            Check.due("then", x.earned(0, 3), 11);
        });
        doc.says("Throws `IndexOutOfBoundsException` if there is no such child or badge", () -> {
            Edges.farOff(Check.INDEX, 0, 8, Starts::camp, (x, child) -> x.earned(child, 0));
            Edges.farOff(Check.INDEX, 0, 7, Starts::camp, (x, badge) -> x.earned(0, badge));
        });
    }

    private static void tellHolds(Sentences doc) {
        doc.section("Promise 28");
        doc.says("Returns whether a child holds a badge now.", () -> {
            Badgewood x = Starts.camp();
            Check.due("holds it", x.holds(0, 0), true);
            Check.due("another child does not", x.holds(5, 0), false);
            Check.due("another badge it does not", x.holds(0, 1), false);
        });
        doc.says("`child`: a child", () -> Edges.child((x, child) -> x.holds(child, 0)));
        doc.says("`badge`: 0 to 7",
                () -> Edges.range(Check.INDEX, 0, 7, Starts::camp, (x, badge) -> x.holds(0, badge)));
        doc.says("Returns whether it does.", () -> {
            Badgewood x = Starts.camp();
            Check.due("no edition", x.holds(0, 7), false);
            Check.due("not begun", x.holds(0, 2), false);
            x.pass(4);
            Check.due("its fifth day", x.holds(0, 0), true);
            x.pass(1);
            Check.due("its sixth day", x.holds(0, 0), false);
        });
        doc.says("Throws `IndexOutOfBoundsException` if there is no such child or badge", () -> {
            Edges.farOff(Check.INDEX, 0, 8, Starts::camp, (x, child) -> x.holds(child, 0));
            Edges.farOff(Check.INDEX, 0, 7, Starts::camp, (x, badge) -> x.holds(0, badge));
        });
    }

    private static void tellLacks(Sentences doc) {
        doc.section("Promise 29");
        doc.says("Returns which of the skills that a badge asks for, without those of the other set, a child has not"
                + " proven.", () -> {
                    Badgewood x = begun(0x0F, 0xF0, 3, 0);
                    Check.due("without the other set", x.lacks(0, 0), 0x0F);
                    x.prove(0, 1, 0);
                    x.prove(0, 4, 0);
                    x.prove(0, 9, 0);
                    Check.due("without what is proven", x.lacks(0, 0), 0x0D);
                });
        doc.says("`child`: a child", () -> {
            Edges.range(Check.INDEX, 0, 23, Starts::most, (x, child) -> x.lacks(child, 0));
            Edges.offByOne(Check.INDEX, 0, 8, Starts::camp, (x, child) -> x.lacks(child, 0));
        });
        doc.says("`badge`: 0 to 7", () -> Edges.range(Check.INDEX, 0, 7, BadgeSentences::allBegun,
                (x, badge) -> x.lacks(0, badge)));
        doc.says("Returns the set.", () -> {
            Check.due("empty", begun(0, 65535, 16, 0).lacks(0, 0), 0);
            Badgewood x = begun(65535, 0, 0, 0);
            for (int skill = 0; skill < 16; skill++) {
                Check.due("from " + skill + " on", x.lacks(0, 0), 65535 >> skill << skill);
                x.prove(0, skill, 0);
            }
            Check.due("empty, as all are proven", x.lacks(0, 0), 0);
        });
        doc.says("Throws `IndexOutOfBoundsException` if there is no such child or badge", () -> {
            Edges.farOff(Check.INDEX, 0, 8, Starts::camp, (x, child) -> x.lacks(child, 0));
            Edges.farOff(Check.INDEX, 0, 7, Starts::camp, (x, badge) -> x.lacks(0, badge));
        });
        doc.says("Throws `IllegalStateException` if it was not begun", () -> {
            Edges.refusedInVain("not begun", Check.STATE, Starts::camp, x -> x.lacks(0, 2));
            Edges.refusedInVain("no edition", Check.STATE, Starts::camp, x -> x.lacks(0, 7));
            Edges.refusedInVain("begun by another alone", Check.STATE, Starts::camp, x -> x.lacks(5, 1));
            Edges.taken("begun and earned", Starts::camp, x -> x.lacks(0, 0));
        });
    }

    private static Badgewood allBegun() {
        Badgewood x = allEditions();
        for (int badge = 0; badge < 8; badge++) {
            x.begin(0, badge);
        }
        return x;
    }
}
