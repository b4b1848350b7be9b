/** Objects to begin with. */
final class Starts {
    private static final int NONE = Badgewood.NONE;

    private Starts() {
    }

    /** Six troops for all, and 24 children of eight who are in none. */
    static Badgewood crowd() {
        Badgewood x = new Badgewood();
        for (int troop = 0; troop < 6; troop++) {
            x.troop(5, 20, 12);
        }
        for (int child = 0; child < 24; child++) {
            x.child(8);
        }
        return x;
    }

    /** Eight leaders who teach all and are vetted for land 0 on all days. */
    static void addLeaders(Badgewood x) {
        for (int leader = 0; leader < 8; leader++) {
            x.leader();
            x.teach(leader, 65535);
            x.vet(leader, 0, 0, 9999);
        }
    }

    /** As many as there may be of all: four children a troop, each with a box, and with badge 0 begun. */
    static Badgewood most() {
        Badgewood x = crowd();
        addLeaders(x);
        for (int badge = 0; badge < 8; badge++) {
            x.edition(badge, 1 << badge, 0, 0, NONE, 0, 0);
        }
        for (int child = 0; child < 24; child++) {
            x.join(child, child % 6);
            x.boxes(child, 1);
            x.begin(child, 0);
        }
        for (int event = 0; event < 20; event++) {
            x.event(event % 6, event % 3, event % 4, 1 + event, 9, 2);
        }
        return x;
    }

    /** A child of eight in no troop, and a leader who teaches all and is vetted on all days. */
    static Badgewood pair() {
        Badgewood x = new Badgewood();
        x.child(8);
        x.leader();
        x.teach(0, 65535);
        x.vet(0, 0, 0, 9999);
        return x;
    }

    /** So many children who are in troop 0, and so many leaders who are vetted for land 0 on all days. */
    static Badgewood outing(int children, int leaders) {
        Badgewood x = new Badgewood();
        x.troop(5, 20, 12);
        for (int child = 0; child < children; child++) {
            x.join(x.child(8), 0);
        }
        for (int leader = 0; leader < leaders; leader++) {
            x.leader();
            x.vet(leader, 0, 0, 9999);
        }
        return x;
    }

    /** A troop for all with little room, and so many children of eight of whom as many as can are in. */
    static Badgewood queue(int room, int children) {
        Badgewood x = new Badgewood();
        x.troop(5, 20, room);
        for (int child = 0; child < children; child++) {
            x.join(x.child(8), 0);
        }
        return x;
    }

    /** The last day but so many. */
    static Badgewood late(int left) {
        Badgewood x = new Badgewood();
        goTo(x, 9999 - left);
        return x;
    }

    static void goTo(Badgewood x, int day) {
        while (x.today() < day) {
            x.pass(Math.min(400, day - x.today()));
        }
    }

    /**
     * The day 10, with some of all. Troop 0 is full with the children 0, 1, 2, and 3, 4 wait for it; 5 and 6 are in
     * troop 1; 7 and 8 are in none; 6 owes to troop 2, which is empty.
     */
    static Badgewood camp() {
        Badgewood x = new Badgewood();
        x.pass(10);
        x.troop(6, 9, 3);
        x.troop(8, 12, 12);
        x.troop(5, 20, 1);
        int[] ages = {7, 8, 9, 6, 8, 12, 11, 10, 5};
        for (int age : ages) {
            x.child(age);
        }
        for (int child = 0; child < 5; child++) {
            x.join(child, 0);
        }
        x.join(5, 1);
        x.join(6, 2);
        x.boxes(6, 1);
        x.leave(6);
        x.join(6, 1);
        x.boxes(0, 10);
        x.boxes(5, 3);
        x.pay(5, 2);
        addCampLeaders(x);
        addCampBadges(x);
        addCampEvents(x);
        return x;
    }

    /** 0 may all; 1 teaches the skills 0 to 3 alone; 2 is not vetted on that day; 3 is, but teaches nothing. */
    private static void addCampLeaders(Badgewood x) {
        for (int leader = 0; leader < 4; leader++) {
            x.leader();
        }
        x.vet(0, 0, 0, 9999);
        x.teach(0, 65535);
        x.permit(0, Badgewood.WATER, 9999);
        x.vet(1, 0, 0, 20);
        x.vet(1, 1, 5, 50);
        x.teach(1, 15);
        x.permit(1, Badgewood.ROPES, 20);
        x.vet(2, 2, 30, 40);
        x.teach(2, 65535);
        x.vet(3, 0, 0, 9999);
    }

    /** One edition of badge 0, two of badge 1, three of badge 2; child 0 has begun 0 and 1 and earned 0. */
    private static void addCampBadges(Badgewood x) {
        x.edition(0, 0b11, 0, 0, NONE, 0, 5);
        x.edition(1, 0b100, 0b11000, 1, 0, 7, 0);
        x.edition(1, 0b1100, 0, 0, NONE, 0, 30);
        x.edition(2, 0, 0, 0, 1, 400, 4000);
        x.edition(2, 0, 0, 0, NONE, 0, 0);
        x.edition(2, 1, 0, 0, NONE, 0, 0);
        x.begin(0, 0);
        x.begin(0, 1);
        x.begin(5, 0);
        x.prove(0, 0, 0);
        x.prove(0, 1, 1);
        x.prove(5, 0, 0);
    }

    /** Leader 0 is at event 0, leader 1 at event 1, which have the hour 11 in common. */
    private static void addCampEvents(Badgewood x) {
        x.event(0, 0, Badgewood.HALL, 12, 9, 3);
        x.event(1, 0, Badgewood.WATER, 12, 11, 2);
        x.event(1, 1, Badgewood.ROPES, 15, 20, 4);
        x.staff(0, 0, true);
        x.staff(1, 1, true);
        x.staff(2, 0, true);
    }
}
