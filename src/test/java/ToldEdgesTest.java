import java.math.BigInteger;

/** The edges of promises 8 to 14: what is told. */
final class ToldEdgesTest extends Edges {
    private static final int[] NO_NUMBERS = {-1, 24, 25, 256, 65536, MIN, MIN + 1, MAX};

    public static void main(String[] args) throws Exception {
        new ToldEdgesTest().runAll();
    }

    /** Code of all kinds, with an island at 8 and a constant at 12: load 0, branch 1, return 2, plain 3 to 5, label 6, align 7. */
    private static FarReach allKinds() {
        return Check.reading("l1bArn9n9n5:Aa3");
    }

    // ---- promise 8

    @Sentence("what = 0 its kind (0 PLAIN, 1 LOAD, 2 BRANCH, 3 LABEL, 4 ALIGN, 5 RETURN)")
    void itemKinds() {
        int[] kinds = {1, 2, 5, 0, 0, 0, 3, 4};
        for (int item = 0; item < kinds.length; item++) {
            check.due("item(" + item + ", 0)", allKinds().item(item, 0), kinds[item]);
        }
    }

    @Sentence("1 what is told of it (bytes; VALUE; LABEL, \"A\" is 0; LABEL; 2, 4, 8; 0)")
    void itemTold() {
        FarReach x = Check.reading("n9l0l9bAbH:A:Ha1a2a3r");
        int[] told = {9, 0, 9, 0, 7, 0, 7, 2, 4, 8, 0};
        for (int item = 0; item < told.length; item++) {
            check.due("item(" + item + ", 1)", x.item(item, 1), told[item]);
        }
        x.grow(0, 40);
        check.due("item(0, 1) of what grew", x.item(0, 1), 40);
    }

    @Sentence("2 its ADDRESS, 3 how many bytes it has")
    void itemAddressesAndBytes() {
        int[] addresses = {0, 2, 6, 16, 25, 34, 39, 39};
        int[] bytes = {2, 4, 2, 9, 9, 5, 0, 1};
        for (int item = 0; item < addresses.length; item++) {
            check.due("item(" + item + ", 2)", allKinds().item(item, 2), addresses[item]);
            check.due("item(" + item + ", 3)", allKinds().item(item, 3), bytes[item]);
        }
    }

    @Sentence("Of an ITEM, as all is LAID in the end")
    void itemsInTheEnd() {
        // in the first round the label was at 29
        check.due("item(6, 2)", allKinds().item(6, 2), 39);
        // also if it fails: the second load was at 4 at first
        FarReach x = Check.reading("l1rl2");
        check.due("item(2, 2)", x.item(2, 2), 8);
    }

    @Sentence("4 whether it is a LONG BRANCH (1, 0)")
    void itemIsLong() {
        for (int item = 0; item < 8; item++) {
            check.due("item(" + item + ", 4)", allKinds().item(item, 4), item == 1 ? 1 : 0);
        }
        check.due("item(0, 4) of a short one", Check.reading("bA:A").item(0, 4), 0);
        check.due("item(0, 4) of a long one that does not reach", Check.reading("bAn9n9n9n9:A").item(0, 4), 1);
    }

    @Sentence("5 the ADDRESS to which it GOES (NONE: it does not REACH, or is none that GOES)")
    void itemGoes() {
        int[] to = {12, 8, NONE, NONE, NONE, NONE, NONE, NONE};
        for (int item = 0; item < to.length; item++) {
            check.due("item(" + item + ", 5)", allKinds().item(item, 5), to[item]);
        }
        check.due("item(0, 5) of a short branch to 0", Check.reading(":AbA").item(1, 5), 0);
        check.due("item(0, 5) of a load that does not reach", Check.reading("l1").item(0, 5), NONE);
        check.due("item(0, 5) of a branch that does not reach", Check.reading("bAn9n9n9n9:A").item(0, 5), NONE);
    }

    @Sentence("(NONE: it does not REACH, or is none that GOES). UNKNOWN: item; OUTSIDE: what.")
    void itemRefused() {
        for (int item : new int[] {-1, 8, 23, 24, 25, 256, 65536, MIN, MAX}) {
            for (int what : new int[] {0, 5, 6, -1, MIN, MAX}) {
                refused("item(" + item + ", " + what + ")", allKinds(), x -> x.item(item, what), UNKNOWN);
            }
        }
        for (int what : new int[] {-1, 6, 256, 65536, MIN, MAX}) {
            for (int item = 0; item < 8; item++) {
                check.due("item(" + item + ", " + what + ")", allKinds().item(item, what), OUTSIDE);
            }
        }
        check.due("item(23, 0) of 24", Check.reading("r".repeat(24)).item(23, 0), 5);
        check.due("item(24, 0) of 24", Check.reading("r".repeat(24)).item(24, 0), UNKNOWN);
    }

    // ---- promise 9

    /** Twelve islands, over all of which the branch goes. */
    private static FarReach twelveIslands() {
        return reading("bA" + "r".repeat(13) + ":A", 2, 6, 24);
    }

    @Sentence("Of an ISLAND (from 0, as they came): what = 0 its LABEL, 1 the RETURN (its number) behind which its GAP is")
    void islandsAsTheyCame() {
        FarReach x = Check.reading("bHbArn9n9n5:A:H");
        check.dueIsland(x, 0, 7, 2, 10, 41);
        check.dueIsland(x, 1, 0, 2, 14, 41);
        // the second came into a gap ahead of the first
        x = reading("bAn9l1rn9n4rn9n9:A", 8, 32, 19);
        check.dueIsland(x, 0, 0, 6, 43, 70);
        check.dueIsland(x, 1, 0, 3, 17, 43);
        check.dueIsland(twelveIslands(), 11, 0, 12, 72, 78);
    }

    @Sentence("2 its ADDRESS, 3 the ADDRESS to which it GOES (NONE).")
    void islandGoes() {
        check.due("island(0, 3) to the label at 0", Check.reading(":An9rn9n9n9n1bA").island(0, 3), 0);
        check.due("island(0, 3) to an island", twelveIslands().island(0, 3), 12);
        check.due("island(0, 3) that does not reach", Check.reading(":An9n9n9n9rn9bA").island(0, 3), NONE);
    }

    @Sentence("3 the ADDRESS to which it GOES (NONE). UNKNOWN: island; OUTSIDE: what.")
    void islandRefused() {
        for (int what : new int[] {0, 3, 4, -1, MIN, MAX}) {
            for (int island : NO_NUMBERS) {
                refused("island(" + island + ", " + what + ")", allKinds(), x -> x.island(island, what), UNKNOWN);
            }
            check.due("island(1, " + what + ") of one", allKinds().island(1, what), UNKNOWN);
            check.due("island(12, " + what + ") of twelve", twelveIslands().island(12, what), UNKNOWN);
            check.due("island(0, " + what + ") of none", Check.reading("r").island(0, what), UNKNOWN);
        }
        for (int what : new int[] {-1, 4, 5, 256, 65536, MIN, MAX}) {
            check.due("island(0, " + what + ")", allKinds().island(0, what), OUTSIDE);
            check.due("island(11, " + what + ")", twelveIslands().island(11, what), OUTSIDE);
        }
    }

    // ---- promise 10

    /** Sixteen constants, two in each of eight gaps. */
    private static FarReach sixteenConstants() {
        return reading("l0l1r".repeat(8), 8, 32, 10);
    }

    @Sentence("Of a CONSTANT (from 0, as they came): what = 0 its VALUE, 1 the RETURN behind which its GAP is, 2 its ADDRESS")
    void constantsAsTheyCame() {
        FarReach x = Check.reading("l9l0r");
        check.dueConstant(x, 0, 9, 2, 8, 1);
        check.dueConstant(x, 1, 0, 2, 12, 1);
        // the second and third came into a gap ahead of the first
        x = Check.reading("l1l2n9n3l1rr");
        check.dueConstant(x, 0, 1, 6, 32);
        check.dueConstant(x, 1, 2, 5, 20);
        check.dueConstant(x, 2, 1, 5, 24);
        check.dueConstant(sixteenConstants(), 15, 1, 23, 124, 1);
    }

    @Sentence("3 how many LOADS GO to it")
    void constantLoads() {
        check.due("constant(0, 3), none any more", Check.reading("l1l2n9n3l1rr").constant(0, 3), 0);
        check.due("constant(0, 3), one", Check.reading("l1r").constant(0, 3), 1);
        check.due("constant(0, 3), nine", Check.reading("l7".repeat(9) + "r").constant(0, 3), 9);
        check.due("constant(0, 3), 23", reading("l7".repeat(23) + "r", 8, 32, 48).constant(0, 3), 23);
    }

    @Sentence("3 how many LOADS GO to it. UNKNOWN: constant; OUTSIDE: what.")
    void constantRefused() {
        for (int what : new int[] {0, 3, 4, -1, MIN, MAX}) {
            for (int constant : NO_NUMBERS) {
                refused("constant(" + constant + ", " + what + ")", allKinds(), x -> x.constant(constant, what), UNKNOWN);
            }
            check.due("constant(1, " + what + ") of one", allKinds().constant(1, what), UNKNOWN);
            check.due("constant(16, " + what + ") of sixteen", sixteenConstants().constant(16, what), UNKNOWN);
            check.due("constant(0, " + what + ") of none", Check.reading("r").constant(0, what), UNKNOWN);
        }
        for (int what : new int[] {-1, 4, 5, 256, 65536, MIN, MAX}) {
            check.due("constant(0, " + what + ")", allKinds().constant(0, what), OUTSIDE);
            check.due("constant(15, " + what + ")", sixteenConstants().constant(15, what), OUTSIDE);
        }
    }

    // ---- promise 11

    @Sentence("Through how many ISLANDS one GOES from a BRANCH, till one is at its LABEL")
    void hopsOverIslands() {
        check.due("hops(0) of a short one", Check.reading("bA:A").hops(0), 0);
        check.due("hops(1) of a short one to 0", Check.reading(":AbA").hops(1), 0);
        check.due("hops(0) of a long one", Check.reading("bAn9n9n9n1:A").hops(0), 0);
        check.due("hops(0) over one", Check.reading("bAn9n9n8rn9:A").hops(0), 1);
        check.due("hops(0) over two", Check.reading("bAn9n9bArn9rn9n9n9:A").hops(0), 2);
        check.due("hops(3) over the second", Check.reading("bAn9n9bArn9rn9n9n9:A").hops(3), 1);
        check.due("hops(0) over all twelve", twelveIslands().hops(0), 12);
    }

    @Sentence("NONE: one does not come there.")
    void hopsToNowhere() {
        check.due("hops(0), no island", Check.reading("bAn9n9n9n9:A").hops(0), NONE);
        check.due("hops(7), an island that does not reach", Check.reading(":An9n9n9n9rn9bA").hops(7), NONE);
        FarReach x = reading("bA" + "r".repeat(14) + ":A", 2, 6, 24);
        check.due("hops(0), the twelfth does not reach", x.hops(0), NONE);
        // another branch comes to its label, though all fails
        x = Check.reading("bAn9n9n9n9:AbA");
        check.due("hops(6)", x.hops(6), 0);
    }

    @Sentence("UNKNOWN: item; STATE: it is no BRANCH.")
    void hopsRefused() {
        for (int item : new int[] {-1, 8, 23, 24, 25, 256 + 1, 65536 + 1, MIN, MAX}) {
            refused("hops(" + item + ")", allKinds(), x -> x.hops(item), UNKNOWN);
        }
        for (int item = 0; item < 8; item++) {
            check.due("hops(" + item + ")", allKinds().hops(item), item == 1 ? 1 : STATE);
        }
    }

    // ---- promise 12

    @Sentence("What = 0 whether all is GOOD (1, 0; 1 without CODE), 1 ROUNDS (0 without CODE)")
    void placedWithoutCode() {
        FarReach x = new FarReach();
        check.duePlaced(x, 1, 0, 0, 0, 0, NONE, 0, 0, 0);
        x.reach(0, 2);
        check.duePlaced(x, 1, 0, 0, 0, 0, NONE, 0, 0, 0);
        Check.write(x, "l1");
        check.duePlaced(x, 1, 0, 0, 0, 0, NONE, 0, 0, 0);
        x.code();
        check.duePlaced(x, 0, 1, 2, 0, 1, 0, 0, 0, 0);
        Check.write(x, "n1");
        x.code();
        check.duePlaced(x, 1, 1, 1, 0, 0, NONE, 0, 0, 0);
    }

    @Sentence("2 how many bytes there are in all, 3 how many of these fill up (by ALIGNS, ahead of CONSTANTS)")
    void placedBytes() {
        // the align fills one byte, the gap none
        check.duePlaced(allKinds(), 1, 4, 40, 1);
        // both: one ahead of the constant at 8, three or seven by the align
        FarReach x = Check.reading("l1n3rn1a3");
        check.duePlaced(x, 1, 2, 16, 1 + 3);
        x = Check.reading("l1n3rn5a3");
        check.duePlaced(x, 1, 2, 24, 1 + 7);
        // what comes last is counted too: constants and islands behind the last return
        check.due("placed(2) of l1r", Check.reading("l1r").placed(2), 8);
        check.due("placed(2) of :A", Check.reading(":A").placed(2), 0);
    }

    @Sentence("4 where it FAILS: 0 nowhere, 1 at a LOAD, 2 at a BRANCH, 3 at an ISLAND, 5 the number of that (NONE)")
    void placedFails() {
        dueFails("n1", 0, NONE);
        dueFails("l1", 1, 0);
        dueFails("r".repeat(23) + "l1", 1, 23);
        dueFails("bAn9n9n9n9:A", 2, 0);
        dueFails(":An9n9n9n9bA", 2, 5);
        dueFails(":An9n9n9n9rn9bA", 3, 0);
        dueFails(":Bn9n2:An9n9n9rn9bAbB", 3, 1);
        dueFails("bAn9n9n8rn9n9n9n9:A", 3, 11);
    }

    private void dueFails(String text, int at, int number) {
        FarReach x = Check.reading(text);
        check.due("placed(0) of " + text, x.placed(0), at == 0 ? 1 : 0);
        check.due("placed(4) of " + text, x.placed(4), at);
        check.due("placed(5) of " + text, x.placed(5), number);
    }

    @Sentence("6 ISLANDS, 7 CONSTANTS, 8 LONG BRANCHES. OUTSIDE.")
    void placedRows() {
        check.due("placed(6) of twelve", twelveIslands().placed(6), 12);
        check.due("placed(7) of sixteen", sixteenConstants().placed(7), 16);
        FarReach x = reading("bA".repeat(22) + "n9:A", 2, 120, 24);
        check.due("placed(8) of 22", x.placed(8), 22);
        check.due("placed(8) of none", Check.reading("bA:A").placed(8), 0);
        for (int what : new int[] {-1, 9, 10, 256, 65536, MIN, MAX}) {
            refused("placed(" + what + ")", allKinds(), y -> y.placed(what), OUTSIDE);
            refused("placed(" + what + ") without code", new FarReach(), y -> y.placed(what), OUTSIDE);
        }
    }

    // ---- promise 13

    @Sentence("0 ITEMS, 1 letters of THE PAGE, 2 GAPS, 3 to 5 REACHES SHORT, LONG, LOADS")
    void countWhatThereIs() {
        FarReach x = Check.reading("r".repeat(24));
        Check.write(x, "?".repeat(50));
        x.reach(0, 60);
        x.reach(1, 119);
        x.reach(2, 120);
        check.dueCount(x, 24, 50, 24, 60, 119, 120, 1, 3);
        x = Check.reading("n1");
        check.dueCount(x, 1, 0, 0, 8, 32, 24, 1, 0);
    }

    @Sentence("6 how often CODE was read")
    void countReadings() {
        FarReach x = new FarReach();
        x.code();
        check.due("count(6), only refused", x.count(6), 0);
        for (int read = 1; read <= 3; read++) {
            Check.write(x, "r");
            x.code();
            x.code();
            check.due("count(6)", x.count(6), read);
        }
        x.blank();
        x.fault();
        x.reach(0, 8);
        check.due("count(6)", x.count(6), 3);
    }

    @Sentence("7 how often something was altered by reach(), grow() (also if it stays as it was)")
    void countAltered() {
        FarReach x = Check.reading("n5r");
        check.due("count(7) behind code()", x.count(7), 0);
        x.reach(0, 8);
        x.reach(1, 32);
        x.reach(2, 24);
        check.due("count(7), reaches that stay", x.count(7), 3);
        x.grow(0, 5);
        check.due("count(7), bytes that stay", x.count(7), 4);
        x.grow(0, 6);
        x.reach(0, 9);
        check.due("count(7)", x.count(7), 6);
        x.reach(0, 61);
        x.reach(3, 8);
        x.grow(0, 41);
        x.grow(1, 5);
        x.grow(2, 5);
        check.due("count(7), refused", x.count(7), 6);
        Check.write(x, "r");
        x.code();
        check.due("count(7) behind other code", x.count(7), 6);
    }

    @Sentence("(also if it stays as it was). OUTSIDE.")
    void countRefused() {
        for (int what : new int[] {-1, 8, 9, 256, 65536, MIN, MAX}) {
            refused("count(" + what + ")", allKinds(), x -> x.count(what), OUTSIDE);
            refused("count(" + what + ") without code", new FarReach(), x -> x.count(what), OUTSIDE);
        }
    }

    // ---- promise 14

    /** What digest() must be, reckoned in numbers that do not wrap until the end. */
    private void dueDigest(FarReach x, String page, int... told) {
        BigInteger h = BigInteger.valueOf(1637);
        for (int number : told) h = next(h, number);
        for (int what = 0; what <= 8; what++) h = next(h, x.placed(what));
        for (char letter : page.toCharArray()) h = next(h, letter);
        for (int what = 0; what <= 7; what++) h = next(h, x.count(what));
        check.due("digest() of the page '" + page + "'", x.digest(), h.longValue());
    }

    private static BigInteger next(BigInteger h, int number) {
        return h.multiply(BigInteger.valueOf(31)).add(BigInteger.valueOf(number));
    }

    @Sentence("h is 1637, then for each of these numbers, in order, 31 times h, and it (as longs, wrapping)")
    void digestWraps() {
        check.due("digest() of a new object", new FarReach().digest(), -4681064281904330019L);
        dueDigest(new FarReach(), "");
        dueDigest(writing("r"), "r");
        dueDigest(writing("~ ".repeat(25)), "~ ".repeat(25));
    }

    @Sentence("of each ITEM item() for 0 to 5; of each ISLAND island() for 0 to 3; of each CONSTANT constant() for 0 to 3")
    void digestTellsAll() {
        int[] told = {
            1, 1, 0, 2, 0, 12, 2, 0, 2, 4, 1, 8, 5, 0, 6, 2, 0, NONE, 0, 9, 16, 9, 0, NONE, 0, 9, 25, 9, 0, NONE, 0, 5, 34, 5, 0, NONE,
            3, 0, 39, 0, 0, NONE, 4, 8, 39, 1, 0, NONE,
            0, 2, 8, 39,
            1, 2, 12, 1};
        FarReach x = allKinds();
        dueDigest(x, "", told);
        Check.write(x, "n4?");
        dueDigest(x, "n4?", told);
    }
}
