/** Promises 21 to 23: boxes, paying, what is owed. */
public final class BoxesTest {
    public static void main(String[] args) {
        boxes();
        boxesRefuse();
        theMostBoxes();
        anotherTroop();
        pay();
        owed();
        Check.finish("BoxesTest");
    }

    private static Badgewood readied() {
        Badgewood x = new Badgewood();
        x.troop(5, 20, 2);
        x.troop(5, 20, 2);
        for (int i = 0; i < 4; i++) {
            x.child(8);
        }
        x.join(0, 0);
        x.join(1, 0);
        x.join(2, 0);
        return x;
    }

    private static void boxes() {
        Badgewood x = readied();
        Check.due("21: one", x.boxes(0, 1), 4);
        Check.due("21: the most", x.boxes(0, 99), 400);
        Check.due("21: each their own", x.boxes(1, 2), 8);
        Check.due("25: owes", x.ofChild(0, 5), 400);
        Check.due("25: owes nothing", x.ofChild(3, 5), 0);
    }

    private static void boxesRefuse() {
        Badgewood x = readied();
        Check.refuses("21: no child", Check.INDEX, () -> x.boxes(4, 0));
        Check.refuses("21: below the children", Check.INDEX, () -> x.boxes(-1, 1));
        Check.refuses("21: none", Check.ARGUMENT, () -> x.boxes(0, 0));
        Check.refuses("21: below", Check.ARGUMENT, () -> x.boxes(0, -1));
        Check.refuses("21: above", Check.ARGUMENT, () -> x.boxes(0, 100));
        Check.refuses("21: arguments first", Check.ARGUMENT, () -> x.boxes(3, 100));
        Check.refuses("21: in no troop", Check.STATE, () -> x.boxes(3, 1));
        Check.refuses("21: waits", Check.STATE, () -> x.boxes(2, 1));
        Check.due("25: nothing was taken", x.ofChild(0, 5), 0);
    }

    private static void theMostBoxes() {
        Badgewood x = readied();
        for (int i = 0; i < 50; i++) {
            x.boxes(0, 99);
            x.pay(0, 396);
        }
        x.leave(0);
        x.join(0, 1);
        for (int i = 0; i < 50; i++) {
            x.boxes(0, 99);
        }
        Check.due("21: 9900 in all", x.ofChild(0, 5), 50 * 99 * 4);
        x.boxes(0, 98);
        Check.refuses("21: 10000 in all", Check.STATE, () -> x.boxes(0, 2));
        Check.due("21: 9999 in all", x.boxes(0, 1), (50 * 99 + 99) * 4);
        Check.refuses("21: not one more", Check.STATE, () -> x.boxes(0, 1));
        Check.due("21: of the child alone", x.boxes(1, 99), 396);
    }

    private static void anotherTroop() {
        Badgewood x = readied();
        x.boxes(0, 2);
        x.leave(0);
        Check.due("21: owes behind leaving", x.ofChild(0, 5), 8);
        Check.due("23: to that troop", x.owed(0), 8);
        Check.refuses("21: left", Check.STATE, () -> x.boxes(0, 1));
        x.join(0, 1);
        Check.due("23: still to that troop", x.owed(0), 8);
        Check.due("23: not to the new one", x.owed(1), 0);
        Check.refuses("21: owes to another", Check.STATE, () -> x.boxes(0, 1));
        x.pay(0, 7);
        Check.refuses("21: still owes to another", Check.STATE, () -> x.boxes(0, 1));
        x.pay(0, 1);
        Check.due("21: owes to none", x.boxes(0, 1), 4);
        Check.due("23: to the new one", x.owed(1), 4);
        Check.due("23: no more to the old one", x.owed(0), 0);
        x.leave(0);
        x.leave(1);
        x.join(0, 0);
        x.leave(0);
        x.join(0, 1);
        Check.due("21: back in the troop that it owes to", x.boxes(0, 1), 8);
    }

    private static void pay() {
        Badgewood x = readied();
        x.boxes(0, 99);
        x.boxes(0, 1);
        Check.refuses("22: no child", Check.INDEX, () -> x.pay(4, 0));
        Check.refuses("22: below the children", Check.INDEX, () -> x.pay(-1, 1));
        Check.refuses("22: none", Check.ARGUMENT, () -> x.pay(0, 0));
        Check.refuses("22: below", Check.ARGUMENT, () -> x.pay(0, -4));
        Check.refuses("22: above", Check.ARGUMENT, () -> x.pay(0, 397));
        Check.refuses("22: arguments first", Check.ARGUMENT, () -> x.pay(1, 397));
        Check.refuses("22: owes nothing", Check.STATE, () -> x.pay(1, 1));
        Check.due("22: the most", x.pay(0, 396), 4);
        Check.refuses("22: owes fewer", Check.STATE, () -> x.pay(0, 5));
        Check.due("22: one", x.pay(0, 1), 3);
        Check.due("22: the rest", x.pay(0, 3), 0);
        Check.refuses("22: paid", Check.STATE, () -> x.pay(0, 1));
        x.boxes(1, 3);
        x.leave(1);
        Check.due("22: behind leaving", x.pay(1, 2), 10);
    }

    private static void owed() {
        Badgewood x = readied();
        Check.refuses("23: no troop", Check.INDEX, () -> x.owed(2));
        Check.refuses("23: below the troops", Check.INDEX, () -> x.owed(-1));
        Check.due("23: nothing", x.owed(0), 0);
        x.boxes(0, 5);
        x.boxes(1, 6);
        Check.due("23: together", x.owed(0), 44);
        x.join(3, 1);
        x.boxes(3, 7);
        Check.due("23: not what others are owed", x.owed(0), 44);
        Check.due("23: the other's", x.owed(1), 28);
        x.pay(0, 3);
        Check.due("23: less what is paid", x.owed(0), 41);
        for (int i = 0; i < 13; i++) {
            x.season();
        }
        Check.due("23: behind leaving by age", x.ofChild(0, 1), -1);
        Check.due("23: is owed still", x.owed(0), 41);
    }
}
