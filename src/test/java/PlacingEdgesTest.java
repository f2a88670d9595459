/** The edges of placing: what is mended, in which order, where, and when it fails. */
final class PlacingEdgesTest extends Edges {
    public static void main(String[] args) throws Exception {
        new PlacingEdgesTest().runAll();
    }

    // ---- rounds

    @Sentence("at first all BRANCHES are SHORT, there are no ISLANDS, no CONSTANTS")
    void atFirst() {
        FarReach x = Check.reading("bA:AbAr");
        check.dueItem(x, 0, 2, 0, 0, 2, 0, 2);
        check.dueItem(x, 2, 2, 0, 2, 2, 0, 2);
        check.duePlaced(x, 1, 1, 6, 0, 0, NONE, 0, 0, 0);
    }

    @Sentence("Then ROUND by ROUND (numbered from 1) all is LAID as it is, and one thing is mended")
    void oneThingInEachRound() {
        check.due("placed(1), nothing to mend", Check.reading("n1").placed(1), 1);
        check.due("placed(1), one branch", Check.reading("bAn7:A").placed(1), 2);
        check.due("placed(1), one load", Check.reading("l1r").placed(1), 2);
        check.due("placed(1), two loads of one value", Check.reading("l1l1r").placed(1), 2);
        check.due("placed(1), two loads", Check.reading("l1l2r").placed(1), 3);
        check.due("placed(1), two branches", Check.reading("bAbAn9:A").placed(1), 3);
        check.due("placed(1), a branch and its island", Check.reading("bAn9n9n8rn9:A").placed(1), 3);
        // the branch to B is pushed out of reach only by that to A, and only a new laying tells
        FarReach x = Check.reading("bAbBn4:An3:B");
        check.dueItem(x, 0, 2, 0, 0, 4, 1, 12);
        check.dueItem(x, 1, 2, 1, 4, 4, 1, 15);
        check.duePlaced(x, 1, 3, 15, 0, 0, NONE, 0, 0, 2);
    }

    @Sentence("one thing is mended in each round, the first that does not reach, until all reach, or one cannot")
    void manyRounds() {
        // 19 branches become long, then twelve islands come, each of which pushes the label out of reach of the last
        FarReach x = reading("bA".repeat(19) + "rn9n9n9:A", 2, 120, 24);
        x.grow(20, 40);
        x.grow(21, 40);
        x.grow(22, 37);
        check.duePlaced(x, 0, 32, 243, 0, 3, 11, 12, 0, 19);
        // one byte less, and the first island reaches
        x.grow(22, 36);
        check.duePlaced(x, 1, 21, 198, 0, 0, NONE, 1, 0, 19);
    }

    @Sentence("(1) the first SHORT BRANCH (by its number) that does not REACH")
    void theFirstShortBranch() {
        // neither reaches; as soon as the first is long, what fills up behind the second is less, and it reaches
        FarReach x = Check.reading("bAbBa3n3:Bn9:A");
        check.dueItem(x, 0, 2, 0, 0, 4, 1, 20);
        check.dueItem(x, 1, 2, 1, 4, 2, 0, 11);
        check.duePlaced(x, 1, 2, 20, 2, 0, NONE, 0, 0, 1);
    }

    @Sentence("becomes LONG for good")
    void longForGood() {
        // 12 far when it became long; 8 far since the constant came
        FarReach x = Check.reading("l1r:An5a3bA");
        check.dueItem(x, 2, 3, 0, 8, 0, 0, NONE);
        check.dueItem(x, 5, 2, 0, 16, 4, 1, 8);
        check.duePlaced(x, 1, 3, 20, 3, 0, NONE, 0, 1, 1);
    }

    @Sentence("one thing is mended, the first of these that there is")
    void shortBranchesAheadOfLoads() {
        // the load cannot be mended at all; the branch is made long nevertheless
        FarReach x = Check.reading("l1bAn9:A");
        check.duePlaced(x, 0, 2, 15, 0, 1, 0, 0, 0, 1);
    }

    @Sentence("one thing is mended, the first of these that there is")
    void loadsAheadOfLongBranches() {
        // neither can be mended
        FarReach x = Check.reading("bAn9n9n9n9:Al1");
        check.duePlaced(x, 0, 2, 42, 0, 1, 6, 0, 0, 1);
        // the first constant came ahead of the first island, which then pushed it out of reach
        x = reading("bAn9l1rn9n4rn9n9:A", 8, 32, 19);
        check.dueConstant(x, 0, 1, 6, 48, 0);
        check.dueConstant(x, 1, 1, 3, 24, 1);
        check.dueIsland(x, 0, 0, 6, 43, 70);
        check.dueIsland(x, 1, 0, 3, 17, 43);
        check.duePlaced(x, 1, 6, 70, 4, 0, NONE, 2, 2, 1);
    }

    @Sentence("one thing is mended, the first of these that there is")
    void longBranchesAheadOfIslands() {
        // the island at 6 does not reach either, and is the older one
        FarReach x = Check.reading("bArbAn9n9n9n9:A");
        check.due("island(0, 3)", x.island(0, 3), NONE);
        check.due("placed(4)", x.placed(4), 2);
        check.due("placed(5)", x.placed(5), 2);
    }

    // ---- constants

    @Sentence("(2) the first LOAD that does not REACH gets a CONSTANT of its VALUE")
    void theFirstLoad() {
        FarReach x = Check.reading("l3l2l1r");
        check.dueConstant(x, 0, 3, 3, 8, 1);
        check.dueConstant(x, 1, 2, 3, 12, 1);
        check.dueConstant(x, 2, 1, 3, 16, 1);
        check.duePlaced(Check.reading("l3l2"), 0, 1, 4, 0, 1, 0, 0, 0, 0);
        check.duePlaced(Check.reading("l3rl2l1"), 0, 2, 12, 0, 1, 2, 0, 1, 0);
    }

    @Sentence("behind those of the last GAP behind that LOAD, where it would REACH it")
    void theLastGap() {
        // gaps at 4, 6 and 8, so that constants would lie at 4, 8 and 8
        check.dueConstant(reading("l1rrr", 8, 32, 8), 0, 1, 3, 8, 1);
        check.dueConstant(reading("l1rrr", 8, 32, 7), 0, 1, 1, 4, 1);
        // the second one behind the first, as long as it would reach that; in an earlier gap else
        FarReach x = reading("l1l2rr", 8, 32, 10);
        check.dueConstant(x, 0, 1, 3, 8, 1);
        check.dueConstant(x, 1, 2, 3, 12, 1);
        x = reading("l1l2rr", 8, 32, 9);
        check.due("constant(1, 1)", x.constant(1, 1), 2);
    }

    @Sentence("behind those of the last GAP behind that LOAD")
    void gapsAheadOfTheLoad() {
        check.duePlaced(Check.reading("rl1"), 0, 1, 4, 0, 1, 1, 0, 0, 0);
        check.duePlaced(Check.reading("rrrl1n1"), 0, 1, 9, 0, 1, 3, 0, 0, 0);
        check.dueConstant(Check.reading("rl1r"), 0, 1, 2, 8, 1);
    }

    @Sentence("if all else stayed as it is LAID (where the CONSTANT would lie, with what fills up ahead of it)")
    void constantsWouldLieBehindTheFilling() {
        // gaps at 23 and 25: constants would lie at 24 and 28
        for (int loads = 24; loads <= 27; loads++) {
            check.dueConstant(reading("l1n9n9n1rr", 8, 32, loads), 0, 1, 4, 24, 1);
        }
        check.dueConstant(reading("l1n9n9n1rr", 8, 32, 28), 0, 1, 5, 28, 1);
        check.duePlaced(reading("l1n9n9n1rr", 8, 32, 23), 0, 1, 25, 0, 1, 0, 0, 0, 0);
        // a gap that has constants fills up no more: the next one lies right behind them
        check.due("placed(0)", reading("l1n1l2r", 8, 32, 9).placed(0), 1);
        check.duePlaced(reading("l1n1l2r", 8, 32, 8), 0, 2, 12, 1, 1, 2, 0, 1, 0);
    }

    @Sentence("there would be more than 16 CONSTANTS")
    void sixteenConstants() {
        // each load reaches only into the next gap: eight gaps of two constants
        FarReach x = reading("l0l1r".repeat(8), 8, 32, 10);
        check.duePlaced(x, 1, 17, 128, 16, 0, NONE, 0, 16, 0);
        check.dueConstant(x, 0, 0, 2, 8, 1);
        check.dueConstant(x, 15, 1, 23, 124, 1);
        check.due("constant(16, 0)", x.constant(16, 0), UNKNOWN);
        // five gaps of three, and one of one
        x = reading("l0l1l2r".repeat(5) + "n4l0r", 8, 32, 12);
        check.duePlaced(x, 1, 17, 112, 0, 0, NONE, 0, 16, 0);
        check.dueConstant(x, 15, 0, 22, 108, 1);
        // of two: the second would be the seventeenth
        x = reading("l0l1l2r".repeat(5) + "n4l0l1r", 8, 32, 12);
        check.duePlaced(x, 0, 17, 116, 2, 1, 22, 0, 16, 0);
        check.dueConstant(x, 15, 0, 23, 112, 1);
        check.due("item(21, 5)", x.item(21, 5), 112);
        check.due("item(22, 5)", x.item(22, 5), NONE);
        check.due("constant(16, 0)", x.constant(16, 0), UNKNOWN);
    }

    // ---- islands

    @Sentence("(3) the first LONG BRANCH")
    void theFirstLongBranch() {
        check.duePlaced(Check.reading("bAbAn9n9n9n9:A"), 0, 3, 44, 0, 2, 0, 0, 0, 2);
        FarReach x = Check.reading("bBbArn9n9n5:A:B");
        check.due("island(0, 0)", x.island(0, 0), 1);
        check.due("island(1, 0)", x.island(1, 0), 0);
    }

    @Sentence("(4) the first ISLAND (as they came) that does not REACH")
    void theFirstIsland() {
        // neither reaches; the first has no gap on its way
        FarReach x = Check.reading(":An9n9n9n9rn9bAbBn9rn9n9n9n9:B");
        check.dueIsland(x, 0, 0, 5, 38, NONE);
        check.dueIsland(x, 1, 1, 10, 70, NONE);
        check.duePlaced(x, 0, 5, 110, 0, 3, 0, 2, 0, 2);
        // the first reaches, the second has no gap on its way
        x = Check.reading(":Bn9n2:An9n9n9rn9bAbB");
        check.dueIsland(x, 0, 0, 7, 40, 11);
        check.dueIsland(x, 1, 1, 7, 44, NONE);
        check.duePlaced(x, 0, 5, 65, 0, 3, 1, 2, 0, 2);
        check.due("hops(9)", x.hops(9), 1);
        check.due("hops(10)", x.hops(10), NONE);
    }

    @Sentence("where that would lie, if all else stayed as it is LAID, is FAR from it by LONG or less")
    void gapsInReach() {
        FarReach x = Check.reading("bAn9n9n8rn9:A");
        check.dueIsland(x, 0, 0, 4, 32, 45);
        check.due("placed(0)", x.placed(0), 1);
        check.duePlaced(Check.reading("bAn9n9n9rn9:A"), 0, 2, 42, 0, 2, 0, 0, 0, 1);
        // behind too: the gap is 28, 32 and 33 far from the branch, which each island pushes 4 farther
        x = Check.reading(":An9rn9n9n9n1bA");
        check.dueIsland(x, 0, 0, 2, 11, 0);
        check.dueItem(x, 7, 2, 0, 43, 4, 1, 11);
        check.duePlaced(x, 1, 3, 47, 0, 0, NONE, 1, 0, 1);
        x = Check.reading(":An9rn9n9n9n5bA");
        check.dueIsland(x, 0, 0, 2, 11, 0);
        check.dueIsland(x, 11, 0, 2, 55, 23);
        check.dueItem(x, 7, 2, 0, 91, 4, 1, NONE);
        check.duePlaced(x, 0, 14, 95, 0, 2, 7, 12, 0, 1);
        check.duePlaced(Check.reading(":An9rn9n9n9n6bA"), 0, 2, 48, 0, 2, 7, 0, 0, 1);
    }

    @Sentence("and less FAR from that LABEL than it is itself; of such GAPS")
    void gapsThatLeadAway() {
        // one more island would lie at 10, where the branch is: just as far from the label
        check.duePlaced(Check.reading("bArbAn9n9n9n9:A"), 0, 4, 50, 0, 2, 2, 1, 0, 2);
        // a gap behind both
        check.duePlaced(Check.reading(":An9n9n9n9bAr"), 0, 2, 42, 0, 2, 5, 0, 0, 1);
        check.duePlaced(Check.reading("rbAn9n9n9n9:A"), 0, 2, 42, 0, 2, 1, 0, 0, 1);
    }

    @Sentence("of such GAPS that where it is least FAR from that LABEL")
    void theGapLeastFarFromTheLabel() {
        FarReach x = Check.reading("bHrn9rn9rn9n9:Hr");
        check.dueIsland(x, 0, 7, 5, 28, 50);
        check.duePlaced(x, 1, 3, 52, 0, 0, NONE, 1, 0, 1);
        x = Check.reading(":Hn9n9rn9rn9rbH");
        check.dueIsland(x, 0, 7, 3, 20, 0);
        check.due("item(8, 5)", x.item(8, 5), 20);
    }

    @Sentence("an ISLAND of its LABEL comes, behind those of a GAP")
    void islandsBehindThoseOfTheGap() {
        // each one pushes the label on, so that the next comes behind it
        FarReach x = Check.reading("bAn9n9n8rn9n9n9n9:A");
        for (int island = 0; island < 12; island++) {
            check.due("island(" + island + ", 2)", x.island(island, 2), 32 + 4 * island);
        }
    }

    @Sentence("or there would be more than 16 CONSTANTS, 12 ISLANDS")
    void twelveIslands() {
        // from gap to gap, six bytes each
        FarReach x = reading("bA" + "r".repeat(13) + ":A", 2, 6, 24);
        check.duePlaced(x, 1, 14, 78, 0, 0, NONE, 12, 0, 1);
        check.dueIsland(x, 0, 0, 1, 6, 12);
        check.dueIsland(x, 11, 0, 12, 72, 78);
        check.due("hops(0)", x.hops(0), 12);
        check.due("island(12, 0)", x.island(12, 0), UNKNOWN);
        x = reading("bA" + "r".repeat(14) + ":A", 2, 6, 24);
        check.duePlaced(x, 0, 14, 80, 0, 3, 11, 12, 0, 1);
        check.dueIsland(x, 11, 0, 12, 72, NONE);
        check.due("hops(0)", x.hops(0), NONE);
        check.due("island(12, 0)", x.island(12, 0), UNKNOWN);
    }

    @Sentence("or there would be more than 16 CONSTANTS, 12 ISLANDS), it FAILS there")
    void twelveIslandsOfBranches() {
        // each branch gets an island in the next gap; the thirteenth branch does not
        FarReach x = reading("bAbBr".repeat(6) + "bArn9:A:B", 2, 10, 24);
        check.duePlaced(x, 0, 26, 123, 0, 2, 18, 12, 0, 13);
        check.due("island(11, 2)", x.island(11, 2), 104);
        check.due("item(16, 5)", x.item(16, 5), 104);
        check.due("item(18, 5)", x.item(18, 5), NONE);
    }

    // ---- the end

    @Sentence("If there is nothing to mend, all is GOOD")
    void allIsGood() {
        check.duePlaced(Check.reading("n1"), 1, 1, 1, 0, 0, NONE, 0, 0, 0);
        check.duePlaced(Check.reading("l1r"), 1, 2, 8, 0, 0, NONE, 0, 1, 0);
        check.duePlaced(Check.reading("bAn9n9n8rn9:A"), 1, 3, 45, 0, 0, NONE, 1, 0, 1);
    }

    @Sentence("if it cannot be mended (there is no such GAP")
    void noSuchGap() {
        check.duePlaced(Check.reading("n1l1"), 0, 1, 3, 0, 1, 1, 0, 0, 0);
        check.duePlaced(Check.reading("n1bAn9n9n9n9:A"), 0, 2, 41, 0, 2, 1, 0, 0, 1);
        check.duePlaced(Check.reading(":An9n9n9n9rn9bA"), 0, 3, 55, 0, 3, 0, 1, 0, 1);
    }

    @Sentence("it FAILS there. This is the last ROUND.")
    void failingEndsThePlacing() {
        // the second load could be mended, the first cannot
        FarReach x = Check.reading("l1n9n9n9l2r");
        check.duePlaced(x, 0, 1, 33, 0, 1, 0, 0, 0, 0);
        check.due("item(4, 5)", x.item(4, 5), NONE);
        // what came ahead of the first that cannot be mended stays
        x = Check.reading("l1rl2");
        check.duePlaced(x, 0, 2, 10, 0, 1, 2, 0, 1, 0);
        check.dueConstant(x, 0, 1, 1, 4, 1);
    }

    @Sentence("nothing that came goes again")
    void nothingGoesAgain() {
        // no load goes to the first constant any more
        FarReach x = Check.reading("l1l2n9n3l1rr");
        check.due("constant(0, 3)", x.constant(0, 3), 0);
        check.due("placed(7)", x.placed(7), 3);
        check.due("placed(2)", x.placed(2), 36);
    }
}
