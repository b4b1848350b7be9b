/** Promises 1 to 8: a new object, troops, children, joining and leaving, patrols, duties, days. */
public final class TroopsTest {
    public static void main(String[] args) {
        aNewObject();
        troop();
        child();
        join();
        joinRefuses();
        leave();
        leaveLetsInTheFirst();
        patrol();
        comesIntoTheSmallestPatrol();
        duty();
        pass();
        Check.finish("TroopsTest");
    }

    private static void aNewObject() {
        Badgewood x = new Badgewood();
        Check.due("1: the day", x.today(), 0);
        Check.refuses("1: no troops", Check.INDEX, () -> x.ofTroop(0, false));
        Check.refuses("1: no children", Check.INDEX, () -> x.ofChild(0, 0));
        Check.refuses("1: no leaders", Check.INDEX, () -> x.teach(0, 0));
        Check.refuses("1: no events", Check.INDEX, () -> x.why(0));
        x.child(7);
        for (int badge = 0; badge < 8; badge++) {
            int asked = badge;
            Check.refuses("1: no editions", Check.STATE, () -> x.begin(0, asked));
        }
        Badgewood y = new Badgewood();
        Check.due("1: objects are apart", y.child(9), 0);
        Check.due("1: ages are apart", x.ofChild(0, 0), 7);
    }

    private static void troop() {
        Badgewood x = new Badgewood();
        Check.refuses("2: from too low", Check.ARGUMENT, () -> x.troop(4, 8, 3));
        Check.refuses("2: from too high", Check.ARGUMENT, () -> x.troop(21, 21, 3));
        Check.refuses("2: to below from", Check.ARGUMENT, () -> x.troop(9, 8, 3));
        Check.refuses("2: to too high", Check.ARGUMENT, () -> x.troop(9, 21, 3));
        Check.refuses("2: no room", Check.ARGUMENT, () -> x.troop(5, 8, 0));
        Check.refuses("2: too much room", Check.ARGUMENT, () -> x.troop(5, 8, 13));
        Check.refuses("2: wild", Check.ARGUMENT,
                () -> x.troop(Integer.MIN_VALUE, Integer.MAX_VALUE, Integer.MIN_VALUE));
        Check.due("2: the least", x.troop(5, 5, 1), 0);
        Check.due("2: the greatest", x.troop(20, 20, 12), 1);
        for (int number = 2; number < 6; number++) {
            Check.due("2: numbers", x.troop(5, 20, 4), number);
        }
        Check.refuses("2: six", Check.STATE, () -> x.troop(5, 20, 4));
        Check.refuses("2: arguments first", Check.ARGUMENT, () -> x.troop(5, 20, 0));
        Check.due("2: the last is there", x.ofTroop(5, false), 0);
        Check.refuses("2: no seventh", Check.INDEX, () -> x.ofTroop(6, false));
    }

    private static void child() {
        Badgewood x = new Badgewood();
        Check.refuses("3: too young", Check.ARGUMENT, () -> x.child(4));
        Check.refuses("3: too old", Check.ARGUMENT, () -> x.child(18));
        for (int number = 0; number < 24; number++) {
            Check.due("3: numbers", x.child(number % 2 == 0 ? 5 : 17), number);
        }
        Check.refuses("3: twenty-four", Check.STATE, () -> x.child(9));
        Check.refuses("3: arguments first", Check.ARGUMENT, () -> x.child(4));
        Check.due("3: age", x.ofChild(23, 0), 17);
        Check.refuses("3: no twenty-fifth", Check.INDEX, () -> x.ofChild(24, 0));
    }

    private static void join() {
        Badgewood x = new Badgewood();
        x.troop(7, 9, 2);
        for (int i = 0; i < 5; i++) {
            x.child(7 + i % 3);
        }
        Check.due("4: in", x.join(1, 0), 0);
        Check.due("4: in too", x.join(0, 0), 0);
        Check.due("4: the first to wait", x.join(4, 0), 1);
        Check.due("4: the second to wait", x.join(2, 0), 2);
        Check.due("4: the third to wait", x.join(3, 0), 3);
        Check.due("4: its troop", x.ofChild(0, 1), 0);
        Check.due("4: waits for none", x.ofChild(0, 2), -1);
        Check.due("4: no troop", x.ofChild(2, 1), -1);
        Check.due("4: waits", x.ofChild(2, 2), 0);
        Check.due("4: no patrol", x.ofChild(2, 3), -1);
        x.leave(2);
        Check.due("4: behind those who wait already", x.join(2, 0), 3);
    }

    private static void joinRefuses() {
        Badgewood x = new Badgewood();
        x.troop(7, 9, 1);
        x.troop(5, 20, 12);
        x.child(6);
        x.child(7);
        x.child(9);
        x.child(10);
        Check.refuses("4: no child", Check.INDEX, () -> x.join(4, 0));
        Check.refuses("4: below the children", Check.INDEX, () -> x.join(-1, 0));
        Check.refuses("4: no troop", Check.INDEX, () -> x.join(0, 2));
        Check.refuses("4: below the troops", Check.INDEX, () -> x.join(0, -1));
        Check.refuses("4: too young", Check.STATE, () -> x.join(0, 0));
        Check.refuses("4: too old", Check.STATE, () -> x.join(3, 0));
        Check.due("4: the least age", x.join(1, 0), 0);
        Check.due("4: the greatest age", x.join(2, 0), 1);
        Check.refuses("4: is in it", Check.STATE, () -> x.join(1, 0));
        Check.refuses("4: is in another", Check.STATE, () -> x.join(1, 1));
        Check.refuses("4: waits for it", Check.STATE, () -> x.join(2, 0));
        Check.refuses("4: waits for another", Check.STATE, () -> x.join(2, 1));
        Check.refuses("4: numbers first", Check.INDEX, () -> x.join(1, 2));
        Check.due("4: who was refused is in none", x.ofChild(0, 1), -1);
        Check.due("4: who was refused waits for none", x.ofChild(0, 2), -1);
    }

    private static void leave() {
        Badgewood x = new Badgewood();
        x.troop(5, 20, 1);
        x.child(8);
        x.child(8);
        Check.refuses("5: no child", Check.INDEX, () -> x.leave(2));
        Check.refuses("5: below the children", Check.INDEX, () -> x.leave(-1));
        Check.refuses("5: in none", Check.STATE, () -> x.leave(0));
        x.join(0, 0);
        x.join(1, 0);
        Check.due("5: waits no more", x.leave(1), -1);
        Check.due("5: none waits", x.ofTroop(0, true), 0);
        Check.due("5: the other is still in", x.ofTroop(0, false), 1);
        Check.refuses("5: nor waits", Check.STATE, () -> x.leave(1));
        Check.due("5: none comes in", x.leave(0), -1);
        Check.due("5: no troop", x.ofChild(0, 1), -1);
        Check.due("5: no patrol", x.ofChild(0, 3), -1);
        Check.refuses("5: left already", Check.STATE, () -> x.leave(0));
    }

    private static void leaveLetsInTheFirst() {
        Badgewood x = new Badgewood();
        x.troop(5, 20, 1);
        x.troop(5, 20, 1);
        for (int i = 0; i < 6; i++) {
            x.child(8);
        }
        x.join(0, 0);
        x.join(5, 0);
        x.join(1, 1);
        x.join(2, 1);
        x.join(4, 0);
        x.join(3, 0);
        Check.due("5: the first of those who wait for it", x.leave(0), 5);
        Check.due("5: is in", x.ofChild(5, 1), 0);
        Check.due("5: waits no more", x.ofChild(5, 2), -1);
        Check.due("5: has a patrol", x.ofChild(5, 3), 0);
        Check.due("5: two still wait", x.ofTroop(0, true), 2);
        Check.due("5: then who came next", x.leave(5), 4);
        Check.due("5: to join again is to wait behind", x.join(5, 0), 2);
        Check.due("5: then the third", x.leave(4), 3);
        Check.due("5: then who joined again", x.leave(3), 5);
        Check.due("5: the other troop's own", x.leave(1), 2);
    }

    private static void patrol() {
        Badgewood x = new Badgewood();
        x.troop(5, 20, 1);
        x.child(8);
        x.child(8);
        Check.refuses("6: no child", Check.INDEX, () -> x.patrol(2, 9));
        Check.refuses("6: below", Check.ARGUMENT, () -> x.patrol(0, -1));
        Check.refuses("6: above", Check.ARGUMENT, () -> x.patrol(0, 4));
        Check.refuses("6: in no troop", Check.STATE, () -> x.patrol(0, 0));
        x.join(0, 0);
        x.join(1, 0);
        Check.refuses("6: waits", Check.STATE, () -> x.patrol(1, 0));
        Check.due("6: the one before", x.patrol(0, 3), 0);
        Check.due("6: set", x.ofChild(0, 3), 3);
        Check.due("6: the same again", x.patrol(0, 3), 3);
        Check.due("6: back", x.patrol(0, 0), 3);
    }

    private static void comesIntoTheSmallestPatrol() {
        Badgewood x = new Badgewood();
        x.troop(5, 20, 12);
        x.troop(5, 20, 12);
        for (int i = 0; i < 12; i++) {
            x.child(8);
        }
        for (int i = 0; i < 6; i++) {
            x.join(i, 0);
            Check.due("4: the patrols in turn", x.ofChild(i, 3), i % 4);
        }
        x.join(11, 1);
        Check.due("4: by its own troop", x.ofChild(11, 3), 0);
        x.leave(2);
        x.join(6, 0);
        Check.due("4: the fewest", x.ofChild(6, 3), 2);
        x.patrol(0, 3);
        x.patrol(4, 3);
        x.join(7, 0);
        Check.due("4: an empty one", x.ofChild(7, 3), 0);
        x.join(8, 0);
        Check.due("4: of several the lowest", x.ofChild(8, 3), 0);
        x.join(9, 0);
        Check.due("4: then the next", x.ofChild(9, 3), 2);
    }

    private static void duty() {
        Badgewood x = new Badgewood();
        x.troop(5, 20, 12);
        x.troop(5, 20, 12);
        Check.refuses("7: no troop", Check.INDEX, () -> x.duty(2, -1));
        Check.refuses("7: below", Check.ARGUMENT, () -> x.duty(0, -1));
        Check.refuses("7: above", Check.ARGUMENT, () -> x.duty(0, 10000));
        Check.due("7: no children", x.duty(0, 0), -1);
        for (int i = 0; i < 4; i++) {
            x.child(8);
        }
        x.join(0, 0);
        Check.due("7: one patrol", x.duty(0, 9999), 0);
        Check.due("7: the other troop has none", x.duty(1, 9999), -1);
        x.patrol(0, 2);
        Check.due("7: the only one", x.duty(0, 1), 2);
        x.join(1, 0);
        x.join(2, 0);
        x.join(3, 0);
        int[] due = {0, 1, 2, 3};
        x.patrol(1, 0);
        x.patrol(2, 1);
        x.patrol(3, 3);
        for (int day = 0; day < 9; day++) {
            Check.due("7: four in turn", x.duty(0, day), due[day % 4]);
        }
        x.leave(1);
        int[] three = {1, 2, 3};
        for (int day = 0; day < 7; day++) {
            Check.due("7: three in turn", x.duty(0, day), three[day % 3]);
        }
        x.patrol(0, 3);
        Check.due("7: an even day", x.duty(0, 8), 1);
        Check.due("7: an odd day", x.duty(0, 9999), 3);
    }

    private static void pass() {
        Badgewood x = new Badgewood();
        Check.refuses("8: none", Check.ARGUMENT, () -> x.pass(0));
        Check.refuses("8: below", Check.ARGUMENT, () -> x.pass(-1));
        Check.refuses("8: too many", Check.ARGUMENT, () -> x.pass(401));
        Check.due("8: one", x.pass(1), 1);
        Check.due("8: the most", x.pass(400), 401);
        for (int i = 0; i < 23; i++) {
            x.pass(400);
        }
        Check.due("24: today", x.today(), 9601);
        Check.refuses("8: above the last day", Check.STATE, () -> x.pass(399));
        Check.refuses("8: arguments first", Check.ARGUMENT, () -> x.pass(401));
        Check.due("8: to the last day", x.pass(398), 9999);
        Check.refuses("8: no day is left", Check.STATE, () -> x.pass(1));
        Check.due("24: unchanged", x.today(), 9999);
    }
}
