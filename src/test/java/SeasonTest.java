/** Promise 9: a season. */
public final class SeasonTest {
    public static void main(String[] args) {
        everybodyIsOlder();
        waitersWaitNoMore();
        waitersComeInAheadOfThoseWhoMoveUp();
        theLowestTroopEvenIfFull();
        byRisingNumbers();
        allLeaveAheadOfComingIn();
        waitersAreNotCounted();
        asManyAsThereIsRoomFor();
        Check.finish("SeasonTest");
    }

    private static void everybodyIsOlder() {
        Badgewood x = new Badgewood();
        Check.due("9: nobody", x.season(), 0);
        x.troop(5, 17, 2);
        x.child(17);
        x.child(5);
        x.child(16);
        x.join(1, 0);
        x.join(2, 0);
        Check.due("9: none leaves", x.season(), 0);
        Check.due("9: older in no troop", x.ofChild(0, 0), 18);
        Check.due("9: older in a troop", x.ofChild(1, 0), 6);
        Check.due("9: still in", x.ofChild(2, 1), 0);
        Check.due("9: the patrol stays", x.ofChild(2, 3), 1);
        Check.due("9: one leaves", x.season(), 1);
        Check.due("9: in none", x.ofChild(2, 1), -1);
        Check.due("9: waits for none", x.ofChild(2, 2), -1);
        Check.due("9: no patrol", x.ofChild(2, 3), -1);
        Check.due("9: the day stays", x.today(), 0);
        x.season();
        Check.due("9: older again", x.ofChild(0, 0), 20);
    }

    private static void waitersWaitNoMore() {
        Badgewood x = new Badgewood();
        x.troop(5, 8, 1);
        x.troop(9, 12, 5);
        x.child(5);
        x.child(8);
        x.child(7);
        x.join(0, 0);
        x.join(1, 0);
        x.join(2, 0);
        Check.due("9: those who wait do not leave", x.season(), 0);
        Check.due("9: waits no more", x.ofChild(1, 2), -1);
        Check.due("9: and joins nothing", x.ofChild(1, 1), -1);
        Check.due("9: who fits still waits", x.ofChild(2, 2), 0);
        Check.due("9: and is the first now", x.leave(0), 2);
    }

    private static void waitersComeInAheadOfThoseWhoMoveUp() {
        Badgewood x = new Badgewood();
        x.troop(5, 8, 2);
        x.troop(9, 12, 2);
        x.child(8);
        x.child(12);
        x.child(9);
        x.child(9);
        x.child(9);
        x.join(0, 0);
        x.join(1, 1);
        x.join(2, 1);
        x.join(3, 1);
        x.join(4, 1);
        Check.due("9: two leave", x.season(), 2);
        Check.due("9: the first who waits is in", x.ofChild(3, 1), 1);
        Check.due("9: with the patrol that is free", x.ofChild(3, 3), 0);
        Check.due("9: the second still waits", x.ofChild(4, 2), 1);
        Check.due("9: who moves up waits", x.ofChild(0, 2), 1);
        Check.due("9: who is too old for all is in none", x.ofChild(1, 1), -1);
        Check.due("9: in their order", x.leave(2), 4);
        Check.due("9: behind those who waited", x.leave(4), 0);
    }

    private static void theLowestTroopEvenIfFull() {
        Badgewood x = new Badgewood();
        x.troop(6, 7, 3);
        x.troop(8, 9, 1);
        x.troop(8, 10, 5);
        x.child(7);
        x.child(8);
        x.child(7);
        x.join(0, 0);
        x.join(1, 1);
        x.join(2, 0);
        Check.due("9: two leave", x.season(), 2);
        Check.due("9: waits for the lowest", x.ofChild(0, 2), 1);
        Check.due("9: waits for the lowest too", x.ofChild(2, 2), 1);
        Check.due("9: not the one with room", x.ofTroop(2, false), 0);
    }

    private static void byRisingNumbers() {
        Badgewood x = new Badgewood();
        x.troop(10, 11, 2);
        x.troop(8, 9, 3);
        x.troop(5, 9, 3);
        for (int i = 0; i < 4; i++) {
            x.child(9);
        }
        x.join(3, 1);
        x.join(2, 2);
        x.join(1, 1);
        x.join(0, 2);
        Check.due("9: four leave", x.season(), 4);
        Check.due("9: the lowest number is in", x.ofChild(0, 1), 0);
        Check.due("9: with the first patrol", x.ofChild(0, 3), 0);
        Check.due("9: the next is in", x.ofChild(1, 3), 1);
        Check.due("9: the third waits", x.ofChild(2, 2), 0);
        Check.due("9: the third is the first to wait", x.leave(1), 2);
        Check.due("9: then the fourth", x.leave(0), 3);
    }

    /** Troop 1's leavers must be out before troop 0's waiters and movers come in. */
    private static void allLeaveAheadOfComingIn() {
        Badgewood x = new Badgewood();
        x.troop(9, 10, 2);
        x.troop(5, 8, 2);
        x.child(10);
        x.child(10);
        x.child(8);
        x.child(8);
        x.child(7);
        x.child(7);
        for (int i = 0; i < 2; i++) {
            x.join(i, 0);
            x.join(2 + i, 1);
        }
        x.join(4, 1);
        x.join(5, 1);
        Check.due("9: four leave", x.season(), 4);
        Check.due("9: moved up", x.ofTroop(0, false), 2);
        Check.due("9: moved up, the one", x.ofChild(2, 1), 0);
        Check.due("9: two come in", x.ofTroop(1, false), 2);
        Check.due("9: none waits", x.ofTroop(1, true), 0);
        Check.due("9: the first has patrol 0", x.ofChild(4, 3), 0);
        Check.due("9: the second has patrol 1", x.ofChild(5, 3), 1);
    }

    private static void waitersAreNotCounted() {
        Badgewood x = new Badgewood();
        x.troop(5, 8, 1);
        x.child(8);
        x.child(8);
        x.join(0, 0);
        x.join(1, 0);
        Check.due("9: only who was in", x.season(), 1);
        Check.due("9: who waited is not let in", x.ofChild(1, 1), -1);
        Check.due("26: none is in", x.ofTroop(0, false), 0);
        Check.due("26: none waits", x.ofTroop(0, true), 0);
    }

    private static void asManyAsThereIsRoomFor() {
        Badgewood x = new Badgewood();
        x.troop(5, 8, 3);
        int[] ages = {6, 7, 5, 8, 8, 7};
        for (int age : ages) {
            x.child(age);
        }
        int[] order = {4, 3, 1, 5, 0, 2};
        for (int child : order) {
            x.join(child, 0);
        }
        Check.due("26: three wait", x.ofTroop(0, true), 3);
        Check.due("9: two leave", x.season(), 2);
        Check.due("9: two come in", x.ofTroop(0, false), 3);
        Check.due("9: the last still waits", x.ofChild(2, 2), 0);
        Check.due("9: the first of them", x.ofChild(5, 3), 0);
        Check.due("9: the second of them", x.ofChild(0, 3), 1);
        Check.due("9: who stays keeps the patrol", x.ofChild(1, 3), 2);
    }
}
