import java.util.ArrayList;

/** A movement of the young: troops, children, badges, leaders, events and boxes. */
public final class Badgewood {
    public static final int NONE = -1;
    public static final int HALL = 0, WATER = 1, ROPES = 2, FIRE = 3;
    public static final int LAWFUL = 0, TOO_FEW = 1, NOT_VETTED = 2, NO_PERMIT = 3, ALONE = 4;

    private static final int MOST_TROOPS = 6;
    private static final int MOST_CHILDREN = 24;
    private static final int MOST_LEADERS = 8;
    private static final int MOST_EVENTS = 20;
    private static final int MOST_EDITIONS = 3;
    private static final int MOST_AT_ONCE = 3;
    private static final int MOST_BOXES = 9999;
    private static final int LANDS = 3;
    private static final int KINDS = 4;
    private static final int PATROLS = 4;
    private static final int BADGES = 8;
    private static final int SKILLS = 16;
    private static final int ALL_SKILLS = 65535;
    private static final int LAST_DAY = 9999;
    private static final int COINS_A_BOX = 4;

    /** Stands for a day that can't be told: far behind every day and gap, so that it is never reached. */
    private static final int NEVER = 1000000;

    private final ArrayList<Troop> troops;
    private final ArrayList<Child> children;
    private final ArrayList<Leader> leaders;
    private final ArrayList<Event> events;
    private final Badge[] badges;
    private int now;
    private int nextTicket;

    public Badgewood() {
        troops = new ArrayList<Troop>();
        children = new ArrayList<Child>();
        leaders = new ArrayList<Leader>();
        events = new ArrayList<Event>();
        badges = new Badge[BADGES];
        for (int badge = 0; badge < badges.length; badge++) {
            badges[badge] = new Badge();
        }
        now = 0;
        nextTicket = 0;
    }

    // ---- troops, children

    public int troop(int from, int to, int room) throws IllegalArgumentException, IllegalStateException {
        requireRange(from, 5, 20);
        requireRange(to, from, 20);
        requireRange(room, 1, 12);
        requireRoom(troops.size(), MOST_TROOPS);
        int number = troops.size();
        troops.add(new Troop(number, from, to, room));
        return number;
    }

    public int child(int age) throws IllegalArgumentException, IllegalStateException {
        requireRange(age, 5, 17);
        requireRoom(children.size(), MOST_CHILDREN);
        int number = children.size();
        children.add(new Child(number, age));
        return number;
    }

    public int join(int child, int troop) throws IndexOutOfBoundsException, IllegalStateException {
        Child joiner = childAt(child);
        Troop joined = troopAt(troop);
        if (joiner.troop != NONE || joiner.awaited != NONE) {
            throw new IllegalStateException("the child is in a troop or waits for one");
        }
        if (!joined.isFor(joiner.age)) {
            throw new IllegalStateException("the troop is not for the age of the child");
        }
        return comeInOrWait(joiner, joined);
    }

    public int leave(int child) throws IndexOutOfBoundsException, IllegalStateException {
        Child leaver = childAt(child);
        if (leaver.troop == NONE && leaver.awaited == NONE) {
            throw new IllegalStateException("the child is in no troop and waits for none");
        }
        int left = leaver.troop;
        leaver.goOut();
        return left == NONE ? NONE : letFirstIn(left);
    }

    public int patrol(int child, int patrol)
            throws IndexOutOfBoundsException, IllegalArgumentException, IllegalStateException {
        Child mover = childAt(child);
        requireRange(patrol, 0, PATROLS - 1);
        if (mover.troop == NONE) {
            throw new IllegalStateException("the child is in no troop");
        }
        int before = mover.patrol;
        mover.patrol = patrol;
        return before;
    }

    public int duty(int troop, int day) throws IndexOutOfBoundsException, IllegalArgumentException {
        Troop asked = troopAt(troop);
        requireRange(day, 0, LAST_DAY);
        int filled = filledPatrols(asked.number);
        if (filled == 0) {
            return NONE;
        }
        return filledPatrolAt(asked.number, day % filled);
    }

    public int pass(int days) throws IllegalArgumentException, IllegalStateException {
        requireRange(days, 1, 400);
        if (now + days > LAST_DAY) {
            throw new IllegalStateException("there are no days left");
        }
        now += days;
        return now;
    }

    public int season() {
        for (int i = 0; i < children.size(); i++) {
            children.get(i).age++;
        }
        int leavers = sendOutByAge();
        for (int i = 0; i < troops.size(); i++) {
            fillUp(troops.get(i));
        }
        for (int i = 0; i < children.size(); i++) {
            if (hasBit(leavers, i)) {
                moveUp(children.get(i));
            }
        }
        return Integer.bitCount(leavers);
    }

    // ---- leaders

    public int leader() throws IllegalStateException {
        requireRoom(leaders.size(), MOST_LEADERS);
        leaders.add(new Leader());
        return leaders.size() - 1;
    }

    public void vet(int leader, int land, int from, int to)
            throws IndexOutOfBoundsException, IllegalArgumentException {
        Leader vetted = leaderAt(leader);
        requireIndex(land, LANDS);
        requireRange(from, 0, LAST_DAY);
        requireRange(to, from, LAST_DAY);
        vetted.setVetted(land, from, to);
    }

    public int permit(int leader, int kind, int till) throws IndexOutOfBoundsException, IllegalArgumentException {
        Leader permitted = leaderAt(leader);
        requireRange(kind, WATER, FIRE);
        requireRange(till, NONE, LAST_DAY);
        int before = permitted.permitOf(kind);
        permitted.setPermit(kind, till);
        return before;
    }

    public int teach(int leader, int skills) throws IndexOutOfBoundsException, IllegalArgumentException {
        Leader teacher = leaderAt(leader);
        requireRange(skills, 0, ALL_SKILLS);
        int before = teacher.taught;
        teacher.taught = skills;
        return before;
    }

    // ---- badges

    public int edition(int badge, int must, int choice, int many, int before, int gap, int lasts)
            throws IndexOutOfBoundsException, IllegalArgumentException, IllegalStateException {
        Badge renewed = badgeAt(badge);
        requireRange(must, 0, ALL_SKILLS);
        requireRange(choice, 0, ALL_SKILLS);
        if ((must & choice) != 0) {
            throw new IllegalArgumentException("both sets have a skill in common");
        }
        requireRange(many, 0, Integer.bitCount(choice));
        requireRange(before, NONE, badge - 1);
        if (before != NONE) {
            requireRange(gap, 0, 400);
        }
        requireRange(lasts, 0, 4000);
        requireRoom(renewed.editions.size(), MOST_EDITIONS);
        renewed.editions.add(new Edition(must, choice, many, before, gap, lasts));
        return renewed.editions.size() - 1;
    }

    public int begin(int child, int badge) throws IndexOutOfBoundsException, IllegalStateException {
        Child beginner = childAt(child);
        Badge begun = badgeAt(badge);
        int editions = begun.editions.size();
        if (editions == 0) {
            throw new IllegalStateException("the badge has no edition");
        }
        if (beginner.courseOf(badge) != null) {
            throw new IllegalStateException("the badge was begun");
        }
        beginner.take(badge, new Course(begun.editions.get(editions - 1), now));
        return editions - 1;
    }

    public int prove(int child, int skill, int leader) throws IndexOutOfBoundsException, IllegalStateException {
        Child prover = childAt(child);
        requireIndex(skill, SKILLS);
        Leader teacher = leaderAt(leader);
        if (!teacher.isVettedSomewhere(now)) {
            throw new IllegalStateException("the leader is vetted for no land today");
        }
        if (!hasBit(teacher.taught, skill)) {
            throw new IllegalStateException("the leader does not teach the skill");
        }
        if (hasBit(prover.proven, skill)) {
            throw new IllegalStateException("the skill was proven");
        }
        prover.addProof(skill, now);
        return prover.badgesBy(now);
    }

    // ---- events

    public int event(int troop, int land, int kind, int day, int hour, int hours)
            throws IndexOutOfBoundsException, IllegalArgumentException, IllegalStateException {
        Troop planner = troopAt(troop);
        requireIndex(land, LANDS);
        requireRange(kind, 0, KINDS - 1);
        requireRange(day, now, LAST_DAY);
        requireRange(hour, 0, 23);
        requireRange(hours, 1, 24 - hour);
        requireRoom(events.size(), MOST_EVENTS);
        events.add(new Event(planner.number, land, kind, day, hour, hours));
        return events.size() - 1;
    }

    public int staff(int event, int leader, boolean is) throws IndexOutOfBoundsException, IllegalStateException {
        Event told = eventAt(event);
        requireIndex(leader, leaders.size());
        if (is && isElsewhere(told, leader)) {
            throw new IllegalStateException("the leader is at another event then");
        }
        int bit = 1 << leader;
        told.leaders = is ? told.leaders | bit : told.leaders & ~bit;
        return Integer.bitCount(told.leaders);
    }

    public int why(int event) throws IndexOutOfBoundsException {
        Event asked = eventAt(event);
        return needOf(asked).verdict(asked.leaders);
    }

    public boolean couldStaff(int day, int hour, int them) throws IllegalArgumentException, IllegalStateException {
        requireRange(day, 0, LAST_DAY);
        requireRange(hour, 0, 23);
        requireRange(them, 0, (1 << leaders.size()) - 1);
        if (eventsIn(day, hour) > MOST_AT_ONCE) {
            throw new IllegalStateException("too many events go on");
        }
        return canShare(needsIn(day, hour), 0, them);
    }

    // ---- boxes

    public int boxes(int child, int boxes)
            throws IndexOutOfBoundsException, IllegalArgumentException, IllegalStateException {
        Child seller = childAt(child);
        requireRange(boxes, 1, 99);
        if (seller.troop == NONE) {
            throw new IllegalStateException("the child is in no troop");
        }
        if (seller.coins > 0 && seller.creditor != seller.troop) {
            throw new IllegalStateException("the child owes to another troop");
        }
        if (seller.boxes + boxes > MOST_BOXES) {
            throw new IllegalStateException("the child would have taken too many boxes");
        }
        seller.boxes += boxes;
        seller.coins += boxes * COINS_A_BOX;
        seller.creditor = seller.troop;
        return seller.coins;
    }

    public int pay(int child, int coins)
            throws IndexOutOfBoundsException, IllegalArgumentException, IllegalStateException {
        Child payer = childAt(child);
        requireRange(coins, 1, 396);
        if (payer.coins < coins) {
            throw new IllegalStateException("the child owes fewer coins");
        }
        payer.coins -= coins;
        return payer.coins;
    }

    public int owed(int troop) throws IndexOutOfBoundsException {
        Troop creditor = troopAt(troop);
        int coins = 0;
        for (int i = 0; i < children.size(); i++) {
            if (children.get(i).creditor == creditor.number) {
                coins += children.get(i).coins;
            }
        }
        return coins;
    }

    // ---- asking

    public int today() {
        return now;
    }

    public int ofChild(int child, int what) throws IndexOutOfBoundsException, IllegalArgumentException {
        Child asked = childAt(child);
        switch (what) {
            case 0:
                return asked.age;
            case 1:
                return asked.troop;
            case 2:
                return asked.awaited;
            case 3:
                return asked.patrol;
            case 4:
                return asked.badgesBy(now);
            case 5:
                return asked.coins;
            default:
                throw new IllegalArgumentException("there is no such thing to tell of a child");
        }
    }

    public int ofTroop(int troop, boolean isWaiting) throws IndexOutOfBoundsException {
        Troop asked = troopAt(troop);
        return isWaiting ? waitingFor(asked.number) : childrenIn(asked.number);
    }

    public int earned(int child, int badge) throws IndexOutOfBoundsException {
        Child asked = childAt(child);
        requireIndex(badge, BADGES);
        int day = asked.dayEarned(badge);
        return day <= now ? day : NONE;
    }

    public boolean holds(int child, int badge) throws IndexOutOfBoundsException {
        Child asked = childAt(child);
        requireIndex(badge, BADGES);
        Course course = asked.courseOf(badge);
        return course != null && course.isHeldOn(now);
    }

    public int lacks(int child, int badge) throws IndexOutOfBoundsException, IllegalStateException {
        Child asked = childAt(child);
        requireIndex(badge, BADGES);
        Course course = asked.courseOf(badge);
        if (course == null) {
            throw new IllegalStateException("the badge was not begun");
        }
        return course.edition.must & ~asked.proven;
    }

    // ---- what the calls ask of their arguments

    private static void requireIndex(int number, int count) {
        if (number < 0 || number >= count) {
            throw new IndexOutOfBoundsException("there is none of this number");
        }
    }

    private static void requireRange(int value, int least, int greatest) {
        if (value < least || value > greatest) {
            throw new IllegalArgumentException("an argument is out of its range");
        }
    }

    private static void requireRoom(int count, int most) {
        if (count >= most) {
            throw new IllegalStateException("there are as many as there may be");
        }
    }

    private Troop troopAt(int number) {
        requireIndex(number, troops.size());
        return troops.get(number);
    }

    private Child childAt(int number) {
        requireIndex(number, children.size());
        return children.get(number);
    }

    private Leader leaderAt(int number) {
        requireIndex(number, leaders.size());
        return leaders.get(number);
    }

    private Event eventAt(int number) {
        requireIndex(number, events.size());
        return events.get(number);
    }

    private Badge badgeAt(int number) {
        requireIndex(number, badges.length);
        return badges[number];
    }

    private static boolean hasBit(int set, int number) {
        return (set & (1 << number)) != 0;
    }

    // ---- who is in a troop, and who waits

    private int childrenIn(int troop) {
        int count = 0;
        for (int i = 0; i < children.size(); i++) {
            if (children.get(i).troop == troop) {
                count++;
            }
        }
        return count;
    }

    private int waitingFor(int troop) {
        int count = 0;
        for (int i = 0; i < children.size(); i++) {
            if (children.get(i).awaited == troop) {
                count++;
            }
        }
        return count;
    }

    private int childrenInPatrol(int troop, int patrol) {
        int count = 0;
        for (int i = 0; i < children.size(); i++) {
            Child child = children.get(i);
            if (child.troop == troop && child.patrol == patrol) {
                count++;
            }
        }
        return count;
    }

    private int smallestPatrol(int troop) {
        int smallest = 0;
        int fewest = childrenInPatrol(troop, 0);
        for (int patrol = 1; patrol < PATROLS; patrol++) {
            int count = childrenInPatrol(troop, patrol);
            if (count < fewest) {
                smallest = patrol;
                fewest = count;
            }
        }
        return smallest;
    }

    private int filledPatrols(int troop) {
        int filled = 0;
        for (int patrol = 0; patrol < PATROLS; patrol++) {
            if (childrenInPatrol(troop, patrol) > 0) {
                filled++;
            }
        }
        return filled;
    }

    private int filledPatrolAt(int troop, int place) {
        int passed = 0;
        for (int patrol = 0; patrol < PATROLS; patrol++) {
            if (childrenInPatrol(troop, patrol) > 0) {
                if (passed == place) {
                    return patrol;
                }
                passed++;
            }
        }
        return NONE;
    }

    private int comeInOrWait(Child child, Troop troop) {
        if (childrenIn(troop.number) < troop.room) {
            comeIn(child, troop.number);
            return 0;
        }
        child.awaited = troop.number;
        child.ticket = nextTicket;
        nextTicket++;
        return waitingFor(troop.number);
    }

    private void comeIn(Child child, int troop) {
        child.patrol = smallestPatrol(troop);
        child.troop = troop;
        child.awaited = NONE;
    }

    /** Lets the first one who waits for a troop come in, and returns their number. */
    private int letFirstIn(int troop) {
        Child first = firstWaiting(troop);
        if (first == null) {
            return NONE;
        }
        comeIn(first, troop);
        return first.number;
    }

    private Child firstWaiting(int troop) {
        Child first = null;
        for (int i = 0; i < children.size(); i++) {
            Child child = children.get(i);
            if (child.awaited == troop && (first == null || child.ticket < first.ticket)) {
                first = child;
            }
        }
        return first;
    }

    // ---- the parts of a season

    /** Sends out of all troops those whose age they are not for; returns who were in one, as a set. */
    private int sendOutByAge() {
        int leavers = 0;
        for (int i = 0; i < troops.size(); i++) {
            leavers |= sendOutOf(troops.get(i));
        }
        return leavers;
    }

    private int sendOutOf(Troop troop) {
        int leavers = 0;
        for (int i = 0; i < children.size(); i++) {
            Child child = children.get(i);
            if (!troop.isFor(child.age)) {
                if (child.troop == troop.number) {
                    leavers |= 1 << i;
                    child.goOut();
                } else if (child.awaited == troop.number) {
                    child.goOut();
                }
            }
        }
        return leavers;
    }

    private void fillUp(Troop troop) {
        int free = troop.room - childrenIn(troop.number);
        for (int i = 0; i < free; i++) {
            letFirstIn(troop.number);
        }
    }

    private void moveUp(Child child) {
        for (int i = 0; i < troops.size(); i++) {
            if (troops.get(i).isFor(child.age)) {
                comeInOrWait(child, troops.get(i));
                return;
            }
        }
    }

    // ---- how events are

    private static int childrenPerLeader(int kind) {
        switch (kind) {
            case WATER:
                return 4;
            case ROPES:
                return 3;
            case FIRE:
                return 6;
            default:
                return 8;
        }
    }

    private boolean isElsewhere(Event here, int leader) {
        for (int i = 0; i < events.size(); i++) {
            Event other = events.get(i);
            if (other != here && hasBit(other.leaders, leader) && other.meets(here)) {
                return true;
            }
        }
        return false;
    }

    private Need needOf(Event event) {
        int vetted = 0;
        int permitted = 0;
        for (int i = 0; i < leaders.size(); i++) {
            if (leaders.get(i).isVetted(event.land, event.day)) {
                vetted |= 1 << i;
            }
            if (leaders.get(i).mayLead(event.kind, event.day)) {
                permitted |= 1 << i;
            }
        }
        return new Need(childrenIn(event.troop), childrenPerLeader(event.kind), vetted, permitted);
    }

    private int eventsIn(int day, int hour) {
        int count = 0;
        for (int i = 0; i < events.size(); i++) {
            if (events.get(i).goesOn(day, hour)) {
                count++;
            }
        }
        return count;
    }

    private ArrayList<Need> needsIn(int day, int hour) {
        ArrayList<Need> needs = new ArrayList<Need>();
        for (int i = 0; i < events.size(); i++) {
            if (events.get(i).goesOn(day, hour)) {
                needs.add(needOf(events.get(i)));
            }
        }
        return needs;
    }

    /** Whether the needs from a place on can be met by the leaders who are left. */
    private static boolean canShare(ArrayList<Need> needs, int place, int left) {
        if (place < 0 || place >= needs.size()) {
            return true;
        }
        Need need = needs.get(place);
        int usable = left & need.vetted;
        // More vetted leaders never make an event worse: if all who are left don't do, no fewer do.
        if (need.verdict(usable) != LAWFUL) {
            return false;
        }
        int teams = 1 << Integer.bitCount(usable);
        int team = 0;
        for (int tried = 0; tried < teams; tried++) {
            // For the same reason no larger team than the least has to be tried.
            if (Integer.bitCount(team) == need.least && need.verdict(team) == LAWFUL
                    && canShare(needs, place + 1, left & ~team)) {
                return true;
            }
            team = (team - usable) & usable;
        }
        return false;
    }

    /** Who may be in it, and how many. */
    private static final class Troop {
        final int number;
        final int from;
        final int to;
        final int room;

        Troop(int number, int from, int to, int room) {
            this.number = number;
            this.from = from;
            this.to = to;
            this.room = room;
        }

        boolean isFor(int age) {
            return age >= from && age <= to;
        }
    }

    /** A child, with its troop, its proofs, its badges and its boxes. */
    private static final class Child {
        final int number;
        int age;
        int troop = NONE;
        int awaited = NONE;
        int patrol = NONE;
        /** Who waits with a lower ticket came earlier. */
        int ticket;
        int boxes;
        int coins;
        int creditor = NONE;
        int proven;
        int proofs;
        /** The skills that were proven and the days of that, in the order in which they were. */
        final int[] skillOfProof = new int[SKILLS];
        final int[] dayOfProof = new int[SKILLS];
        final Course[] courses = new Course[BADGES];

        Child(int number, int age) {
            this.number = number;
            this.age = age;
        }

        void goOut() {
            troop = NONE;
            awaited = NONE;
            patrol = NONE;
        }

        /** The child's way to a badge, null if it was not begun. */
        Course courseOf(int badge) {
            return badge >= 0 && badge < courses.length ? courses[badge] : null;
        }

        void take(int badge, Course course) {
            if (badge >= 0 && badge < courses.length) {
                courses[badge] = course;
                reckonBadges();
            }
        }

        void addProof(int skill, int day) {
            if (proofs < skillOfProof.length && proofs < dayOfProof.length) {
                skillOfProof[proofs] = skill;
                dayOfProof[proofs] = day;
                proofs++;
                proven |= 1 << skill;
                reckonBadges();
            }
        }

        int dayEarned(int badge) {
            Course course = courseOf(badge);
            return course == null ? NEVER : course.earnedOn;
        }

        int badgesBy(int day) {
            int count = 0;
            for (int badge = 0; badge < courses.length; badge++) {
                if (dayEarned(badge) <= day) {
                    count++;
                }
            }
            return count;
        }

        /** By rising numbers, since a badge may ask for one with a lower number. */
        private void reckonBadges() {
            for (int badge = 0; badge < courses.length; badge++) {
                Course course = courses[badge];
                if (course != null) {
                    int before = dayAfterBefore(course.edition);
                    course.earnedOn = Math.max(Math.max(course.begunOn, before), dayProven(course.edition));
                }
            }
        }

        private int dayAfterBefore(Edition edition) {
            if (edition.before == NONE) {
                return 0;
            }
            int day = dayEarned(edition.before);
            return day == NEVER ? NEVER : day + edition.gap;
        }

        /** The day on which the last skill that was wanting for an edition was proven, NEVER if some still are. */
        private int dayProven(Edition edition) {
            int day = 0;
            int must = edition.must;
            int many = edition.many;
            for (int i = 0; i < proofs && i < skillOfProof.length && i < dayOfProof.length; i++) {
                int bit = 1 << skillOfProof[i];
                if ((must & bit) != 0) {
                    must &= ~bit;
                    day = dayOfProof[i];
                } else if ((edition.choice & bit) != 0 && many > 0) {
                    many--;
                    day = dayOfProof[i];
                }
            }
            return must == 0 && many == 0 ? day : NEVER;
        }
    }

    /** Where a leader is vetted, what they may lead, and what they teach. */
    private static final class Leader {
        private final int[] vettedFrom = {NONE, NONE, NONE};
        private final int[] vettedTo = {NONE, NONE, NONE};
        private final int[] permits = {NONE, NONE, NONE, NONE};
        int taught;

        void setVetted(int land, int from, int to) {
            if (land >= 0 && land < vettedFrom.length && land < vettedTo.length) {
                vettedFrom[land] = from;
                vettedTo[land] = to;
            }
        }

        boolean isVetted(int land, int day) {
            return land >= 0 && land < vettedFrom.length && land < vettedTo.length
                    && day >= vettedFrom[land] && day <= vettedTo[land];
        }

        boolean isVettedSomewhere(int day) {
            for (int land = 0; land < LANDS; land++) {
                if (isVetted(land, day)) {
                    return true;
                }
            }
            return false;
        }

        void setPermit(int kind, int till) {
            if (kind >= 0 && kind < permits.length) {
                permits[kind] = till;
            }
        }

        int permitOf(int kind) {
            return kind >= 0 && kind < permits.length ? permits[kind] : NONE;
        }

        boolean mayLead(int kind, int day) {
            return kind == HALL || day <= permitOf(kind);
        }
    }

    /** The editions of a badge, by their numbers. */
    private static final class Badge {
        final ArrayList<Edition> editions = new ArrayList<Edition>();
    }

    /** What a badge asks for, and how long it lasts. */
    private static final class Edition {
        final int must;
        final int choice;
        final int many;
        final int before;
        final int gap;
        final int lasts;

        Edition(int must, int choice, int many, int before, int gap, int lasts) {
            this.must = must;
            this.choice = choice;
            this.many = many;
            this.before = before;
            this.gap = gap;
            this.lasts = lasts;
        }
    }

    /** A badge that a child has begun. */
    private static final class Course {
        final Edition edition;
        final int begunOn;
        /** May be a day that is still to come, by a gap. */
        int earnedOn = NEVER;

        Course(Edition edition, int begunOn) {
            this.edition = edition;
            this.begunOn = begunOn;
        }

        boolean isHeldOn(int day) {
            return earnedOn <= day && (edition.lasts == 0 || day - earnedOn < edition.lasts);
        }
    }

    /** Hours of one day, for a troop, with the leaders who are told for it. */
    private static final class Event {
        final int troop;
        final int land;
        final int kind;
        final int day;
        final int hour;
        final int end;
        int leaders;

        Event(int troop, int land, int kind, int day, int hour, int hours) {
            this.troop = troop;
            this.land = land;
            this.kind = kind;
            this.day = day;
            this.hour = hour;
            this.end = hour + hours;
        }

        boolean goesOn(int asked, int at) {
            return day == asked && hour <= at && at < end;
        }

        boolean meets(Event other) {
            return day == other.day && hour < other.end && other.hour < end;
        }
    }

    /** What an event needs by the children whom its troop has now. */
    private static final class Need {
        final int young;
        final int perLeader;
        final int vetted;
        /** Those of whom one has to be there; all with HALL. */
        final int permitted;
        final int least;

        Need(int young, int perLeader, int vetted, int permitted) {
            this.young = young;
            this.perLeader = perLeader;
            this.vetted = vetted;
            this.permitted = permitted;
            this.least = leastLeaders(young, perLeader);
        }

        private static int leastLeaders(int young, int perLeader) {
            if (young == 1) {
                return 2;
            }
            for (int count = 0; count < young; count++) {
                if (count * perLeader >= young) {
                    return count;
                }
            }
            return young;
        }

        int verdict(int team) {
            int count = Integer.bitCount(team);
            if (young == 0) {
                return LAWFUL;
            }
            if (count * perLeader < young) {
                return TOO_FEW;
            }
            if ((team & ~vetted) != 0) {
                return NOT_VETTED;
            }
            if ((team & permitted) == 0) {
                return NO_PERMIT;
            }
            return count == 1 && young == 1 ? ALONE : LAWFUL;
        }
    }
}
