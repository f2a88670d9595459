/** Promises 8 to 12, with the rules of laying and placing: what is placed. */
final class PlacedTest {
    private static final int NONE = FarReach.NONE;
    private static final int[] NO_NUMBERS = {-1, 24, Integer.MIN_VALUE, Integer.MAX_VALUE};

    private final Check check = new Check();

    public static void main(String[] args) {
        PlacedTest test = new PlacedTest();
        test.allKindsOfItems();
        test.alignsFillUp();
        test.shortBranchesReach();
        test.longStaysLong();
        test.longBranchesReach();
        test.loadsReach();
        test.loadsTakeTheLastGap();
        test.loadsGoOnlyBehind();
        test.loadsGoToTheNearest();
        test.tooManyConstants();
        test.islandsInReach();
        test.islandsAreLaidAheadOfConstants();
        test.islandWithoutGap();
        test.tooManyIslands();
        test.loadsAreMendedAheadOfIslands();
        test.numbersThatNameNothing();
        test.whatIsOutside();
        test.check.end();
    }

    private void allKindsOfItems() {
        FarReach x = Check.reading("n3l7bA:Aa1a2a3r");
        check.dueItem(x, 0, 0, 3, 0, 3, 0, NONE);
        check.dueItem(x, 1, 1, 7, 3, 2, 0, 12);
        check.dueItem(x, 2, 2, 0, 5, 2, 0, 7);
        check.dueItem(x, 3, 3, 0, 7, 0, 0, NONE);
        check.dueItem(x, 4, 4, 2, 7, 1, 0, NONE);
        check.dueItem(x, 5, 4, 4, 8, 0, 0, NONE);
        check.dueItem(x, 6, 4, 8, 8, 0, 0, NONE);
        check.dueItem(x, 7, 5, 0, 8, 2, 0, NONE);
        check.dueConstant(x, 0, 7, 7, 12, 1);
        check.duePlaced(x, 1, 2, 16, 3, 0, NONE, 0, 1, 0);
        check.due("hops(2)", x.hops(2), 0);
        x = Check.reading(":CbHbC:H");
        check.dueItem(x, 0, 3, 2, 0, 0, 0, NONE);
        check.dueItem(x, 1, 2, 7, 0, 2, 0, 4);
        check.dueItem(x, 2, 2, 2, 2, 2, 0, 0);
        check.dueItem(x, 3, 3, 7, 4, 0, 0, NONE);
    }

    private void alignsFillUp() {
        FarReach x = Check.reading("a3n1a1n1a2n1a3a3n8a3");
        check.dueItem(x, 0, 4, 8, 0, 0);
        check.dueItem(x, 2, 4, 2, 1, 1);
        check.dueItem(x, 4, 4, 4, 3, 1);
        check.dueItem(x, 6, 4, 8, 5, 3);
        check.dueItem(x, 7, 4, 8, 8, 0);
        check.dueItem(x, 9, 4, 8, 16, 0);
        check.duePlaced(x, 1, 1, 16, 5);
    }

    private void shortBranchesReach() {
        check.dueItem(Check.reading("bAn6:A"), 0, 2, 0, 0, 2, 0, 8);
        check.dueItem(Check.reading("bAn7:A"), 0, 2, 0, 0, 4, 1, 11);
        check.dueItem(Check.reading(":An8bA"), 2, 2, 0, 8, 2, 0, 0);
        check.dueItem(Check.reading(":An9bA"), 2, 2, 0, 9, 4, 1, 0);
        // one branch is made long in each round, and pushes the other out of reach
        FarReach x = Check.reading("bAbBn4:An3:B");
        check.dueItem(x, 0, 2, 0, 0, 4, 1, 12);
        check.dueItem(x, 1, 2, 1, 4, 4, 1, 15);
        check.duePlaced(x, 1, 3, 15, 0, 0, NONE, 0, 0, 2);
    }

    private void longStaysLong() {
        FarReach x = Check.reading("l1r:An5a3bA");
        check.dueItem(x, 2, 3, 0, 8, 0, 0, NONE);
        check.dueItem(x, 5, 2, 0, 16, 4, 1, 8);
        check.duePlaced(x, 1, 3, 20, 3, 0, NONE, 0, 1, 1);
        check.due("hops(5)", x.hops(5), 0);
    }

    private void longBranchesReach() {
        FarReach x = Check.reading("bAn9n9n9n1:A");
        check.dueItem(x, 0, 2, 0, 0, 4, 1, 32);
        check.duePlaced(x, 1, 2, 32, 0, 0, NONE, 0, 0, 1);
        check.due("hops(0)", x.hops(0), 0);
        x = Check.reading("bAn9n9n9n2:A");
        check.dueItem(x, 0, 2, 0, 0, 4, 1, NONE);
        check.duePlaced(x, 0, 2, 33, 0, 2, 0, 0, 0, 1);
        check.due("hops(0)", x.hops(0), NONE);
        // a return behind both does not help: its gap is not nearer to the label
        x = Check.reading(":An9n9n9n9bAr");
        check.duePlaced(x, 0, 2, 42, 0, 2, 5, 0, 0, 1);
    }

    private void loadsReach() {
        FarReach x = Check.reading("l1n9n9n2r");
        check.dueConstant(x, 0, 1, 4, 24, 1);
        check.duePlaced(x, 1, 2, 28, 0, 0, NONE, 0, 1, 0);
        x = Check.reading("l1n9n9n3r");
        check.dueItem(x, 0, 1, 1, 0, 2, 0, NONE);
        check.duePlaced(x, 0, 1, 25, 0, 1, 0, 0, 0, 0);
        // what fills up ahead of the constant counts: 25 would do, 28 does not
        x.reach(2, 25);
        check.duePlaced(x, 0, 1, 25, 0, 1, 0, 0, 0, 0);
        x.reach(2, 28);
        check.duePlaced(x, 1, 2, 32, 3, 0, NONE, 0, 1, 0);
        check.dueConstant(x, 0, 1, 4, 28, 1);
    }

    private void loadsTakeTheLastGap() {
        FarReach x = Check.reading("l1n9n9n1rr");
        check.dueConstant(x, 0, 1, 4, 24, 1);
        check.duePlaced(x, 1, 2, 30, 1, 0, NONE, 0, 1, 0);
        x.reach(2, 28);
        check.dueConstant(x, 0, 1, 5, 28, 1);
        x = Check.reading("l1l2l1rrr");
        check.dueConstant(x, 0, 1, 5, 12, 2);
        check.dueConstant(x, 1, 2, 5, 16, 1);
        check.due("placed(7)", x.placed(7), 2);
    }

    private void loadsGoOnlyBehind() {
        FarReach x = Check.reading("l1rl1");
        check.dueConstant(x, 0, 1, 1, 4, 1);
        check.dueItem(x, 0, 1, 1, 0, 2, 0, 4);
        check.dueItem(x, 2, 1, 1, 8, 2, 0, NONE);
        check.duePlaced(x, 0, 2, 10, 0, 1, 2, 0, 1, 0);
    }

    private void loadsGoToTheNearest() {
        FarReach x = Check.reading("l1l2n9n3l1rr");
        check.dueConstant(x, 0, 1, 6, 32, 0);
        check.dueConstant(x, 1, 2, 5, 20, 1);
        check.dueConstant(x, 2, 1, 5, 24, 2);
        check.due("item(0, 5)", x.item(0, 5), 24);
        check.due("item(1, 5)", x.item(1, 5), 20);
        check.due("item(4, 5)", x.item(4, 5), 24);
        check.duePlaced(x, 1, 4, 36, 2, 0, NONE, 0, 3, 0);
    }

    private void tooManyConstants() {
        // loads lose constants to constants that come ahead of them, until a seventeenth would come, at 44, in reach
        FarReach x = Check.reading("l7l6l5rl3l8l4l1rl8l9rrl5");
        x.reach(2, 32);
        check.duePlaced(x, 0, 17, 98, 6, 1, 6, 0, 16, 0);
        check.dueItem(x, 6, 1, 4, 12, 2, 0, NONE);
        check.dueConstant(x, 0, 7, 12, 80, 0);
        check.dueConstant(x, 10, 1, 8, 20, 1);
        check.dueConstant(x, 15, 8, 8, 40, 1);
        check.due("constant(16, 0)", x.constant(16, 0), FarReach.UNKNOWN);
    }

    private void islandsInReach() {
        FarReach x = Check.reading("bAn9n9n8rn9:Ar");
        check.dueItem(x, 0, 2, 0, 0, 4, 1, 32);
        check.dueIsland(x, 0, 0, 4, 32, 45);
        check.duePlaced(x, 1, 3, 47, 0, 0, NONE, 1, 0, 1);
        check.due("hops(0)", x.hops(0), 1);
        x = Check.reading("bAn9n9n9rn9:Ar");
        check.duePlaced(x, 0, 2, 44, 0, 2, 0, 0, 0, 1);
        // of gaps in reach, that nearest to the label, not to the branch
        x = Check.reading("bHrn9rn9rn9n9:Hr");
        check.dueIsland(x, 0, 7, 5, 28, 50);
        check.due("item(0, 5)", x.item(0, 5), 28);
        // backwards too
        x = Check.reading(":Hn9n9rn9rn9rbH");
        check.dueIsland(x, 0, 7, 3, 20, 0);
        check.due("item(8, 5)", x.item(8, 5), 20);
        check.due("hops(8)", x.hops(8), 1);
    }

    private void islandsAreLaidAheadOfConstants() {
        FarReach x = Check.reading("l4bBl5n9rn9n9:Br");
        check.dueIsland(x, 0, 1, 4, 19, 50);
        check.dueConstant(x, 0, 4, 4, 24, 1);
        check.dueConstant(x, 1, 5, 4, 28, 1);
        check.duePlaced(x, 1, 5, 52, 1, 0, NONE, 1, 2, 1);
        check.due("hops(1)", x.hops(1), 1);
        // a second island pushes both constants out of reach
        x = Check.reading("l4bBl5n9rn9n9n9:Br");
        check.dueIsland(x, 0, 1, 4, 19, 23);
        check.dueIsland(x, 1, 1, 4, 23, NONE);
        check.dueConstant(x, 0, 4, 4, 28, 0);
        check.dueConstant(x, 1, 5, 4, 32, 0);
        check.dueItem(x, 0, 1, 4, 0, 2, 0, NONE);
        check.dueItem(x, 1, 2, 1, 2, 4, 1, 23);
        check.dueItem(x, 2, 1, 5, 6, 2, 0, NONE);
        check.duePlaced(x, 0, 6, 65, 1, 1, 0, 2, 2, 1);
        check.due("hops(1)", x.hops(1), NONE);
    }

    private void islandWithoutGap() {
        FarReach x = Check.reading(":An9n9n9n9rn9bA");
        check.dueIsland(x, 0, 0, 5, 38, NONE);
        check.dueItem(x, 7, 2, 0, 51, 4, 1, 38);
        check.duePlaced(x, 0, 3, 55, 0, 3, 0, 1, 0, 1);
        check.due("hops(7)", x.hops(7), NONE);
    }

    private void tooManyIslands() {
        FarReach x = Check.reading("bAn9n9n8rn9n9n9n9:A");
        check.duePlaced(x, 0, 14, 116, 0, 3, 11, 12, 0, 1);
        check.dueItem(x, 0, 2, 0, 0, 4, 1, 32);
        check.dueIsland(x, 0, 0, 4, 32, 64);
        check.dueIsland(x, 8, 0, 4, 64, 76);
        check.dueIsland(x, 11, 0, 4, 76, NONE);
        check.due("island(12, 0)", x.island(12, 0), FarReach.UNKNOWN);
        check.due("hops(0)", x.hops(0), NONE);
        x.reach(1, 40);
        check.duePlaced(x, 1, 3, 72, 0, 0, NONE, 1, 0, 1);
        check.due("hops(0)", x.hops(0), 1);
    }

    private void loadsAreMendedAheadOfIslands() {
        // the branch cannot be mended either, but the load comes first
        FarReach x = Check.reading("bAn9n9n9n9:Al1");
        check.duePlaced(x, 0, 2, 42, 0, 1, 6, 0, 0, 1);
        check.due("hops(0)", x.hops(0), NONE);
    }

    private void numbersThatNameNothing() {
        FarReach x = Check.reading("l1bAn9n9n8rn9:A");
        check.duePlaced(x, 0, 2, 43, 0, 1, 0, 0, 0, 1);
        x.reach(2, 60);
        check.duePlaced(x, 1, 4, 53, 2, 0, NONE, 1, 1, 1);
        for (int number : NO_NUMBERS) {
            dueUnknown(x, number, number, number);
        }
        dueUnknown(x, 8, 1, 1);
        for (int item : new int[] {0, 2, 5, 7}) {
            check.due("hops(" + item + ")", x.hops(item), FarReach.STATE);
        }
    }

    private void dueUnknown(FarReach x, int item, int island, int constant) {
        for (int what : new int[] {0, 1, -1, 99}) {
            check.due("item(" + item + ", " + what + ")", x.item(item, what), FarReach.UNKNOWN);
            check.due("island(" + island + ", " + what + ")", x.island(island, what), FarReach.UNKNOWN);
            check.due("constant(" + constant + ", " + what + ")", x.constant(constant, what), FarReach.UNKNOWN);
        }
        check.due("hops(" + item + ")", x.hops(item), FarReach.UNKNOWN);
    }

    private void whatIsOutside() {
        FarReach x = Check.reading("l1bAn9n9n8rn9:A");
        x.reach(2, 60);
        for (int what : new int[] {-1, Integer.MIN_VALUE, Integer.MAX_VALUE, 9}) {
            check.due("item(0, " + what + ")", x.item(0, what), FarReach.OUTSIDE);
            check.due("island(0, " + what + ")", x.island(0, what), FarReach.OUTSIDE);
            check.due("constant(0, " + what + ")", x.constant(0, what), FarReach.OUTSIDE);
            check.due("placed(" + what + ")", x.placed(what), FarReach.OUTSIDE);
        }
        check.due("item(0, 6)", x.item(0, 6), FarReach.OUTSIDE);
        check.due("island(0, 4)", x.island(0, 4), FarReach.OUTSIDE);
        check.due("constant(0, 4)", x.constant(0, 4), FarReach.OUTSIDE);
    }
}
