/** Promises 6 and 7: reaches and sizes that are altered. */
final class AlteredTest {
    private static final int MIN = Integer.MIN_VALUE, MAX = Integer.MAX_VALUE;

    private final Check check = new Check();

    public static void main(String[] args) {
        AlteredTest test = new AlteredTest();
        test.promise6Reach();
        test.promise6ReachRefused();
        test.promise6AllIsPlacedAnew();
        test.promise7Grow();
        test.promise7GrowRefused();
        test.promise7AllIsPlacedAnew();
        test.check.end();
    }

    private void dueReach(FarReach x, int what, int v, int answer) {
        check.due("reach(" + what + ", " + v + ")", x.reach(what, v), answer);
    }

    private void dueGrow(FarReach x, int item, int v, int answer) {
        check.due("grow(" + item + ", " + v + ")", x.grow(item, v), answer);
    }

    private void promise6Reach() {
        FarReach x = new FarReach();
        dueReach(x, 0, 2, 8);
        dueReach(x, 0, 60, 2);
        dueReach(x, 1, 4, 32);
        dueReach(x, 1, 120, 4);
        dueReach(x, 2, 4, 24);
        dueReach(x, 2, 120, 4);
        dueReach(x, 2, 120, 120);
        check.dueCount(x, 0, 0, 0, 60, 120, 120, 0, 7);
        check.duePlaced(x, 1, 0, 0, 0, 0, FarReach.NONE, 0, 0, 0);
    }

    private void promise6ReachRefused() {
        FarReach x = Check.reading("bAn6:A");
        long before = x.digest();
        int[][] wrong = {{-1, 8}, {3, 8}, {MIN, 8}, {MAX, 8}, {3, 0}, {0, 1}, {0, 61}, {0, MIN}, {0, MAX},
            {1, 3}, {1, 121}, {1, MIN}, {1, MAX}, {2, 3}, {2, 121}, {2, MIN}, {2, MAX}, {0, 0}, {1, -4}, {2, -120}};
        for (int[] pair : wrong) {
            dueReach(x, pair[0], pair[1], FarReach.OUTSIDE);
        }
        check.due("digest() stays", x.digest(), before);
    }

    private void promise6AllIsPlacedAnew() {
        FarReach x = Check.reading("bAn6:A");
        check.dueItem(x, 0, 2, 0, 0, 2, 0, 8);
        dueReach(x, 0, 7, 8);
        check.dueItem(x, 0, 2, 0, 0, 4, 1, 10);
        dueReach(x, 0, 8, 7);
        // long for good only as long as nothing is altered
        check.dueItem(x, 0, 2, 0, 0, 2, 0, 8);
        x = Check.reading("l1rrr");
        check.dueConstant(x, 0, 1, 3, 8, 1);
        dueReach(x, 2, 7, 24);
        check.dueConstant(x, 0, 1, 1, 4, 1);
        dueReach(x, 2, 4, 7);
        check.dueConstant(x, 0, 1, 1, 4, 1);
        dueReach(x, 2, 8, 4);
        check.dueConstant(x, 0, 1, 3, 8, 1);
        check.due("placed(7)", x.placed(7), 1);
        x = Check.reading("bAn9n9n9n2:A");
        check.due("placed(0)", x.placed(0), 0);
        dueReach(x, 1, 33, 32);
        check.duePlaced(x, 1, 2, 33, 0, 0, FarReach.NONE, 0, 0, 1);
    }

    private void promise7Grow() {
        FarReach x = Check.reading("n5rn9");
        dueGrow(x, 0, 40, 5);
        dueGrow(x, 0, 1, 40);
        dueGrow(x, 2, 9, 9);
        dueGrow(x, 2, 10, 9);
        check.dueItem(x, 0, 0, 1, 0, 1, 0, FarReach.NONE);
        check.dueItem(x, 1, 5, 0, 1, 2, 0, FarReach.NONE);
        check.dueItem(x, 2, 0, 10, 3, 10, 0, FarReach.NONE);
        check.due("count(7)", x.count(7), 4);
        check.due("placed(2)", x.placed(2), 13);
        dueReach(x, 0, 9, 8);
        check.due("item(2, 1), reach() leaves what grew", x.item(2, 1), 10);
    }

    private void promise7GrowRefused() {
        FarReach x = Check.reading("n5l1bA:Aa1r");
        long before = x.digest();
        for (int item : new int[] {-1, 6, 24, 25, MIN, MAX}) {
            dueGrow(x, item, 5, FarReach.UNKNOWN);
            dueGrow(x, item, 0, FarReach.UNKNOWN);
        }
        for (int v : new int[] {0, 41, -1, MIN, MAX}) {
            dueGrow(x, 0, v, FarReach.OUTSIDE);
            dueGrow(x, 1, v, FarReach.OUTSIDE);
        }
        for (int item = 1; item < 6; item++) {
            dueGrow(x, item, 5, FarReach.STATE);
        }
        check.due("digest() stays", x.digest(), before);
    }

    private void promise7AllIsPlacedAnew() {
        FarReach x = Check.reading("bAn6:A");
        dueGrow(x, 1, 7, 6);
        check.dueItem(x, 0, 2, 0, 0, 4, 1, 11);
        check.due("placed(1)", x.placed(1), 2);
        dueGrow(x, 1, 6, 7);
        check.dueItem(x, 0, 2, 0, 0, 2, 0, 8);
        check.due("placed(1)", x.placed(1), 1);
        x = Check.reading("l1n1r");
        check.due("placed(0)", x.placed(0), 1);
        dueGrow(x, 1, 21, 1);
        check.duePlaced(x, 0, 1, 25, 0, 1, 0, 0, 0, 0);
        dueGrow(x, 1, 20, 21);
        check.duePlaced(x, 1, 2, 28, 0, 0, FarReach.NONE, 0, 1, 0);
    }
}
