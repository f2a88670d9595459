/** The edges of how all is laid, and of what reaches. */
final class LaidEdgesTest extends Edges {
    public static void main(String[] args) throws Exception {
        new LaidEdgesTest().runAll();
    }

    // ---- addresses

    @Sentence("ADDRESSES from 0 on, ITEM by ITEM.")
    void addressesFromZero() {
        FarReach x = Check.reading("n1l1bAn9r:A");
        check.due("item(0, 2)", x.item(0, 2), 0);
        check.due("item(1, 2)", x.item(1, 2), 1);
        check.due("item(2, 2)", x.item(2, 2), 3);
        check.due("item(3, 2)", x.item(3, 2), 7);
        check.due("item(4, 2)", x.item(4, 2), 16);
        check.dueConstant(x, 0, 1, 4, 20, 1);
        check.due("item(5, 2)", x.item(5, 2), 24);
        check.due("placed(2)", x.placed(2), 24);
        // code of no bytes at all
        x = Check.reading(":A:Ba3");
        check.dueItem(x, 2, 4, 8, 0, 0);
        check.duePlaced(x, 1, 1, 0, 0, 0, NONE, 0, 0, 0);
    }

    @Sentence("as few bytes as there must be, so that behind it an ADDRESS lies that this divides")
    void alignsFill() {
        int[] fill2 = {1, 0, 1, 0, 1, 0, 1, 0, 1};
        int[] fill4 = {3, 2, 1, 0, 3, 2, 1, 0, 3};
        int[] fill8 = {7, 6, 5, 4, 3, 2, 1, 0, 7};
        for (int bytes = 1; bytes <= 9; bytes++) {
            dueFill("n" + bytes + "a1n1", bytes, fill2[bytes - 1]);
            dueFill("n" + bytes + "a2n1", bytes, fill4[bytes - 1]);
            dueFill("n" + bytes + "a3n1", bytes, fill8[bytes - 1]);
        }
        FarReach x = Check.reading("a3n8a3a3n1a1a1a2a3");
        check.due("item(0, 3), at 0", x.item(0, 3), 0);
        check.due("item(2, 3), at 8", x.item(2, 3), 0);
        check.due("item(3, 3), at 8 again", x.item(3, 3), 0);
        check.due("item(5, 3), at 9", x.item(5, 3), 1);
        check.due("item(6, 3), at 10", x.item(6, 3), 0);
        check.due("item(7, 3), at 10", x.item(7, 3), 2);
        check.due("item(8, 3), at 12", x.item(8, 3), 4);
        check.duePlaced(x, 1, 1, 16, 7);
    }

    private void dueFill(String text, int ahead, int fill) {
        FarReach x = Check.reading(text);
        check.due("item(1, 3) of " + text, x.item(1, 3), fill);
        check.due("item(2, 2) of " + text, x.item(2, 2), ahead + fill);
        check.due("placed(3) of " + text, x.placed(3), fill);
        check.due("placed(2) of " + text, x.placed(2), ahead + fill + 1);
    }

    // ---- gaps

    @Sentence("Behind each RETURN there is a GAP")
    void gapsBehindReturns() {
        check.due("count(2) of n1", Check.reading("n1").count(2), 0);
        check.due("count(2) of r", Check.reading("r").count(2), 1);
        check.due("count(2) of 24 returns", Check.reading("r".repeat(24)).count(2), 24);
        // the last item, or ahead of another return
        check.dueConstant(Check.reading("l1r"), 0, 1, 1, 4, 1);
        check.dueConstant(reading("l1rr", 8, 32, 7), 0, 1, 1, 4, 1);
        check.dueConstant(reading("l1rr", 8, 32, 8), 0, 1, 2, 8, 1);
        // one that holds nothing has no bytes
        FarReach x = Check.reading("n1rn1r");
        check.due("item(2, 2)", x.item(2, 2), 3);
        check.duePlaced(x, 1, 1, 6, 0);
    }

    @Sentence("in it lie its ISLANDS, in the order in which they came, 4 bytes each")
    void islandsInTheirOrder() {
        FarReach x = Check.reading("bBbArn9n9n5:A:B");
        check.dueIsland(x, 0, 1, 2, 10, 41);
        check.dueIsland(x, 1, 0, 2, 14, 41);
        check.due("item(0, 5)", x.item(0, 5), 10);
        check.due("item(1, 5)", x.item(1, 5), 14);
        check.due("item(3, 2)", x.item(3, 2), 18);
        check.duePlaced(x, 1, 5, 41, 0, 0, NONE, 2, 0, 2);
        x = Check.reading("bAbBrn9n9n5:A:B");
        check.dueIsland(x, 0, 0, 2, 10, 41);
        check.dueIsland(x, 1, 1, 2, 14, 41);
    }

    @Sentence("then, if it has CONSTANTS, as few bytes as there must be, so that 4 divides the ADDRESS behind them")
    void gapsFillAheadOfConstants() {
        dueConstantFill("l1rn1", 4, 0, 4);
        dueConstantFill("l1n1rn1", 5, 3, 8);
        dueConstantFill("l1n2rn1", 6, 2, 8);
        dueConstantFill("l1n3rn1", 7, 1, 8);
        dueConstantFill("l1n4rn1", 8, 0, 8);
        // only once for several
        FarReach x = Check.reading("l1l2n1rn1");
        check.dueConstant(x, 0, 1, 3, 8, 1);
        check.dueConstant(x, 1, 2, 3, 12, 1);
        check.duePlaced(x, 1, 3, 17, 1, 0, NONE, 0, 2, 0);
        // in each gap by itself
        x = reading("l1n1rl1n1r", 8, 32, 8);
        check.dueConstant(x, 0, 1, 2, 8, 1);
        check.dueConstant(x, 1, 1, 5, 20, 1);
        check.duePlaced(x, 1, 3, 24, 6, 0, NONE, 0, 2, 0);
    }

    private void dueConstantFill(String text, int end, int fill, int address) {
        FarReach x = Check.reading(text);
        check.due("constant(0, 2) of " + text, x.constant(0, 2), address);
        check.due("placed(3) of " + text, x.placed(3), fill);
        check.due("placed(2) of " + text, x.placed(2), end + fill + 5);
    }

    @Sentence("if it has CONSTANTS")
    void gapsWithoutConstantsDoNotFill() {
        FarReach x = Check.reading("n1rn2");
        check.due("item(2, 2)", x.item(2, 2), 3);
        check.duePlaced(x, 1, 1, 5, 0);
        // an island lies at any address, and nothing fills up behind it
        x = Check.reading("bAn9n9n7rn9:A");
        check.dueIsland(x, 0, 0, 4, 31, 44);
        check.due("item(5, 2)", x.item(5, 2), 35);
        check.duePlaced(x, 1, 3, 44, 0, 0, NONE, 1, 0, 1);
    }

    @Sentence("and its CONSTANTS, in the order in which they came, 4 bytes each")
    void constantsInTheirOrder() {
        FarReach x = Check.reading("l9l0l9rn1");
        check.dueConstant(x, 0, 9, 3, 8, 2);
        check.dueConstant(x, 1, 0, 3, 12, 1);
        check.due("item(4, 2)", x.item(4, 2), 16);
        check.duePlaced(x, 1, 3, 17, 0, 0, NONE, 0, 2, 0);
    }

    @Sentence("in it lie its ISLANDS, in the order in which they came, 4 bytes each, then, if it has CONSTANTS")
    void islandsAheadOfConstants() {
        // the constant came first, and is pushed behind
        FarReach x = Check.reading("l1bArn9n9n5:A");
        check.dueIsland(x, 0, 0, 2, 8, 39);
        check.dueConstant(x, 0, 1, 2, 12, 1);
        check.due("item(0, 5)", x.item(0, 5), 12);
        check.due("item(1, 5)", x.item(1, 5), 8);
        check.duePlaced(x, 1, 4, 39, 0, 0, NONE, 1, 1, 1);
    }

    // ---- what reaches

    @Sentence("A SHORT BRANCH REACHES, if FAR of it and its LABEL is SHORT or less; it GOES there.")
    void shortReach() {
        // ahead: 2 bytes of its own count
        check.dueItem(reading("bA:A", 2, 120, 24), 0, 2, 0, 0, 2, 0, 2);
        check.dueItem(reading("bAn1:A", 2, 120, 24), 0, 2, 0, 0, 4, 1, 5);
        check.dueItem(reading("bAn1:A", 3, 120, 24), 0, 2, 0, 0, 2, 0, 3);
        check.dueItem(reading("bAn6:A", 8, 120, 24), 0, 2, 0, 0, 2, 0, 8);
        check.dueItem(reading("bAn7:A", 8, 120, 24), 0, 2, 0, 0, 4, 1, 11);
        // behind: they do not
        check.dueItem(reading(":AbA", 2, 120, 24), 1, 2, 0, 0, 2, 0, 0);
        check.dueItem(reading(":An2bA", 2, 120, 24), 2, 2, 0, 2, 2, 0, 0);
        check.dueItem(reading(":An3bA", 2, 120, 24), 2, 2, 0, 3, 4, 1, 0);
        check.dueItem(reading(":An8bA", 8, 120, 24), 2, 2, 0, 8, 2, 0, 0);
        check.dueItem(reading(":An9bA", 8, 120, 24), 2, 2, 0, 9, 4, 1, 0);
        // the most
        FarReach x = reading("bAn9n9:A", 60, 120, 24);
        x.grow(1, 40);
        x.grow(2, 18);
        check.dueItem(x, 0, 2, 0, 0, 2, 0, 60);
        x.grow(2, 19);
        check.dueItem(x, 0, 2, 0, 0, 4, 1, 63);
    }

    @Sentence("if FAR of both is LOADS or less")
    void loadReach() {
        check.dueItem(reading("l1r", 8, 32, 4), 0, 1, 1, 0, 2, 0, 4);
        check.dueItem(reading("l1n1r", 8, 32, 8), 0, 1, 1, 0, 2, 0, 8);
        check.dueItem(reading("l1n1r", 8, 32, 7), 0, 1, 1, 0, 2, 0, NONE);
        check.dueItem(reading("n1l1r", 8, 32, 7), 1, 1, 1, 1, 2, 0, 8);
        check.dueItem(reading("n1l1r", 8, 32, 6), 1, 1, 1, 1, 2, 0, NONE);
        check.dueItem(reading("l1n9n9n2r", 8, 32, 24), 0, 1, 1, 0, 2, 0, 24);
        check.dueItem(reading("l1n9n9n3r", 8, 32, 24), 0, 1, 1, 0, 2, 0, NONE);
        FarReach x = reading("l1n9n9n9r", 8, 32, 120);
        x.grow(1, 40);
        x.grow(2, 40);
        x.grow(3, 36);
        check.dueItem(x, 0, 1, 1, 0, 2, 0, 120);
        x.grow(3, 37);
        check.dueItem(x, 0, 1, 1, 0, 2, 0, NONE);
    }

    @Sentence("A LOAD REACHES a CONSTANT of its VALUE")
    void loadsOfOtherValues() {
        FarReach x = Check.reading("l1l1r");
        check.due("placed(7)", x.placed(7), 1);
        check.dueConstant(x, 0, 1, 2, 8, 2);
        x = Check.reading("l0l1r");
        check.due("placed(7)", x.placed(7), 2);
        check.dueConstant(x, 0, 0, 2, 8, 1);
        check.dueConstant(x, 1, 1, 2, 12, 1);
        check.due("item(0, 5)", x.item(0, 5), 8);
        check.due("item(1, 5)", x.item(1, 5), 12);
    }

    @Sentence("that lies behind it")
    void constantsAheadDoNotDo() {
        // the constant at 4 is only 4 far from the load at 8, but ahead of it
        FarReach x = Check.reading("l1rl1");
        check.due("item(0, 5)", x.item(0, 5), 4);
        check.due("item(2, 5)", x.item(2, 5), NONE);
        check.duePlaced(x, 0, 2, 10, 0, 1, 2, 0, 1, 0);
        x = reading("l1rl1r", 8, 32, 4);
        check.dueConstant(x, 0, 1, 1, 4, 1);
        check.dueConstant(x, 1, 1, 3, 12, 1);
        check.duePlaced(x, 1, 3, 16, 0, 0, NONE, 0, 2, 0);
    }

    @Sentence("it GOES to the nearest one")
    void loadsGoToTheNearest() {
        // the last load reaches the constant that came first, at 32, and one at 24
        FarReach x = Check.reading("l1l2n9n3l1rr");
        check.dueConstant(x, 0, 1, 6, 32, 0);
        check.dueConstant(x, 1, 2, 5, 20, 1);
        check.dueConstant(x, 2, 1, 5, 24, 2);
        check.due("item(4, 2)", x.item(4, 2), 16);
        check.due("item(4, 5)", x.item(4, 5), 24);
    }

    @Sentence("REACHES, if FAR of it and its LABEL is LONG or less: then it GOES there")
    void longReach() {
        check.dueItem(reading(":An4bA", 2, 4, 24), 2, 2, 0, 4, 4, 1, 0);
        check.dueItem(reading(":An5bA", 2, 4, 24), 2, 2, 0, 5, 4, 1, NONE);
        check.dueItem(reading("bAn1:A", 2, 5, 24), 0, 2, 0, 0, 4, 1, 5);
        check.dueItem(reading("bAn1:A", 2, 4, 24), 0, 2, 0, 0, 4, 1, NONE);
        check.dueItem(Check.reading("bAn9n9n9n1:A"), 0, 2, 0, 0, 4, 1, 32);
        check.dueItem(Check.reading("bAn9n9n9n2:A"), 0, 2, 0, 0, 4, 1, NONE);
        check.dueItem(Check.reading(":An9n9n9n5bA"), 5, 2, 0, 32, 4, 1, 0);
        check.dueItem(Check.reading(":An9n9n9n6bA"), 5, 2, 0, 33, 4, 1, NONE);
        FarReach x = reading("bAn9n9n9:A", 60, 120, 24);
        x.grow(1, 40);
        x.grow(2, 40);
        x.grow(3, 36);
        check.dueItem(x, 0, 2, 0, 0, 4, 1, 120);
        x.grow(3, 37);
        check.dueItem(x, 0, 2, 0, 0, 4, 1, NONE);
    }

    @Sentence("A LONG BRANCH, and an ISLAND, REACHES, if FAR of it and its LABEL is LONG or less")
    void islandsReachTheirLabel() {
        // both hops are 32 far
        FarReach x = Check.reading("bAn9n9n8rn9n9n9n1:A");
        check.dueIsland(x, 0, 0, 4, 32, 64);
        check.duePlaced(x, 1, 3, 64, 0, 0, NONE, 1, 0, 1);
        // the second hop would be 33 far
        x = Check.reading("bAn9n9n8rn9n9n9n2:A");
        check.due("placed(0)", x.placed(0), 0);
        check.due("island(0, 3)", x.island(0, 3), 64);
    }

    @Sentence("then it GOES there; else, if there is any ISLAND of that LABEL")
    void straightAheadOfIslands() {
        // the second branch could go over the island at 32, but its label is in reach
        FarReach x = Check.reading("bAn9n9n4bArn9:A");
        check.dueIsland(x, 0, 0, 5, 32, 45);
        check.dueItem(x, 0, 2, 0, 0, 4, 1, 32);
        check.dueItem(x, 4, 2, 0, 26, 4, 1, 45);
        check.due("hops(4)", x.hops(4), 0);
        check.due("hops(0)", x.hops(0), 1);
    }

    @Sentence("any ISLAND of that LABEL that is FAR from it by LONG or less")
    void islandsInReach() {
        FarReach x = Check.reading("bAn9n9n8rn9:A");
        check.dueItem(x, 0, 2, 0, 0, 4, 1, 32);
        // an island of the other label does not do, though it is in reach
        x = Check.reading("bBbArn9n9n5:A:B");
        check.due("item(0, 5)", x.item(0, 5), 10);
        check.due("item(1, 5)", x.item(1, 5), 14);
        check.due("placed(6)", x.placed(6), 2);
        // the first branch is 43 far from the second island, and goes to the first one, 28 far
        x = twoIslands();
        check.due("item(0, 5)", x.item(0, 5), 28);
        check.due("hops(0)", x.hops(0), 2);
    }

    /** Two branches at 0 and 22, islands at 28 and 43, the label at 74. */
    private static FarReach twoIslands() {
        return Check.reading("bAn9n9bArn9rn9n9n9:A");
    }

    @Sentence("and less FAR from that LABEL than it is itself: then it GOES to the one of these")
    void islandsThatLeadAway() {
        // the island at 6 is in reach of the branch at 10, but farther from the label; nor does an island go to itself
        FarReach x = Check.reading("bArbAn9n9n9n9:A");
        check.dueIsland(x, 0, 0, 1, 6, NONE);
        check.dueItem(x, 0, 2, 0, 0, 4, 1, 6);
        check.dueItem(x, 2, 2, 0, 10, 4, 1, NONE);
        check.duePlaced(x, 0, 4, 50, 0, 2, 2, 1, 0, 2);
        check.due("hops(0)", x.hops(0), NONE);
        check.due("hops(2)", x.hops(2), NONE);
    }

    @Sentence("then it GOES to the one of these that is least FAR from that LABEL")
    void theIslandLeastFarFromTheLabel() {
        FarReach x = twoIslands();
        check.dueIsland(x, 0, 0, 4, 28, 43);
        check.dueIsland(x, 1, 0, 6, 43, 74);
        check.dueItem(x, 3, 2, 0, 22, 4, 1, 43);
        check.due("hops(3)", x.hops(3), 1);
        check.duePlaced(x, 1, 5, 74, 0, 0, NONE, 2, 0, 2);
    }
}
