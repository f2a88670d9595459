/** The edges of reaches, and of promises 6 and 7. */
final class AlteredEdgesTest extends Edges {
    public static void main(String[] args) throws Exception {
        new AlteredEdgesTest().runAll();
    }

    /** Code with an item of each kind, in which all is good: plain 0, load 1, branch 2, label 3, align 4, return 5. */
    private static FarReach allKinds() {
        return Check.reading("n5l1bA:Aa1r");
    }

    // ---- reaches, promise 6

    private void dueReach(FarReach x, int what, int v, int answer) {
        check.due("reach(" + what + ", " + v + ")", x.reach(what, v), answer);
    }

    private void reachRefused(int what, int v) {
        refused("reach(" + what + ", " + v + ")", allKinds(), x -> x.reach(what, v), OUTSIDE);
        refused("reach(" + what + ", " + v + ") without code", new FarReach(), x -> x.reach(what, v), OUTSIDE);
    }

    /** What a reach is at first, and that it takes all from the least to the most, and no other. */
    private void dueBounds(int what, int first, int least, int most) {
        FarReach x = new FarReach();
        check.due("count(" + (3 + what) + ") at first", x.count(3 + what), first);
        int was = first;
        for (int v = least; v <= most; v++) {
            dueReach(x, what, v, was);
            check.due("count(" + (3 + what) + ")", x.count(3 + what), v);
            was = v;
        }
        for (int v : new int[] {least - 1, most + 1, 0, -1, -least, -most, 256 + least, 65536 + least, MIN, MIN + least, MAX}) {
            reachRefused(what, v);
        }
    }

    @Sentence("SHORT (2 to 60; 8 at first)")
    void shortBounds() {
        dueBounds(0, 8, 2, 60);
    }

    @Sentence("LONG (4 to 120; 32 at first)")
    void longBounds() {
        dueBounds(1, 32, 4, 120);
    }

    @Sentence("LOADS (4 to 120; 24 at first)")
    void loadsBounds() {
        dueBounds(2, 24, 4, 120);
    }

    @Sentence("A REACH becomes v: what it was. What = 0 SHORT, 1 LONG, 2 LOADS.")
    void reachesAreApart() {
        FarReach x = new FarReach();
        dueReach(x, 0, 10, 8);
        check.dueCount(x, 0, 0, 0, 10, 32, 24);
        dueReach(x, 1, 11, 32);
        check.dueCount(x, 0, 0, 0, 10, 11, 24);
        dueReach(x, 2, 12, 24);
        check.dueCount(x, 0, 0, 0, 10, 11, 12);
        dueReach(x, 2, 12, 12);
        check.duePlaced(x, 1, 0, 0, 0, 0, NONE, 0, 0, 0);
        // a reach that was altered ahead of the code holds for it
        dueReach(x, 0, 7, 10);
        Check.write(x, "bAn6:A");
        x.code();
        check.dueItem(x, 0, 2, 0, 0, 4, 1, 10);
    }

    @Sentence("OUTSIDE: what, v.")
    void reachOutside() {
        for (int what : new int[] {-1, 3, MIN, MAX, 256, 65536}) {
            reachRefused(what, 8);
            reachRefused(what, 4);
            reachRefused(what, 0);
        }
        // what one reach may be, another one may not
        reachRefused(1, 2);
        reachRefused(2, 3);
        reachRefused(0, 120);
    }

    // ---- promise 7

    private void dueGrow(FarReach x, int item, int v, int answer) {
        check.due("grow(" + item + ", " + v + ")", x.grow(item, v), answer);
    }

    private void growRefused(int item, int v, int answer) {
        refused("grow(" + item + ", " + v + ")", allKinds(), x -> x.grow(item, v), answer);
    }

    @Sentence("A PLAIN ITEM has v bytes (1 to 40): how many it had.")
    void growBounds() {
        FarReach x = Check.reading("rn9n9");
        int had = 9;
        for (int v = 40; v >= 1; v--) {
            dueGrow(x, 1, v, had);
            check.dueItem(x, 1, 0, v, 2, v, 0, NONE);
            check.dueItem(x, 2, 0, 9, 2 + v, 9, 0, NONE);
            check.due("placed(2)", x.placed(2), 11 + v);
            had = v;
        }
        dueGrow(x, 1, 1, 1);
        dueGrow(x, 2, 40, 9);
        check.due("placed(2)", x.placed(2), 43);
    }

    @Sentence("UNKNOWN: item; OUTSIDE: v; STATE: it is not PLAIN.")
    void growRefusedInOrder() {
        int[] wrongBytes = {0, 41, -1, 256 + 5, 65536 + 5, MIN, MAX};
        for (int item : new int[] {-1, 6, 23, 24, 25, 256, 65536, MIN, MAX}) {
            growRefused(item, 5, UNKNOWN);
            for (int v : wrongBytes) growRefused(item, v, UNKNOWN);
        }
        for (int v : wrongBytes) {
            growRefused(0, v, OUTSIDE);
            for (int item = 1; item <= 5; item++) growRefused(item, v, OUTSIDE);
        }
        for (int item = 1; item <= 5; item++) {
            growRefused(item, 1, STATE);
            growRefused(item, 40, STATE);
        }
    }

    // ---- all anew

    @Sentence("All is done anew from the beginning, as soon as CODE is read, or something is altered.")
    void allIsDoneAnew() {
        FarReach x = Check.reading("bAn6:A");
        check.duePlaced(x, 1, 1, 8, 0, 0, NONE, 0, 0, 0);
        dueReach(x, 0, 7, 8);
        check.duePlaced(x, 1, 2, 10, 0, 0, NONE, 0, 0, 1);
        dueGrow(x, 1, 5, 6);
        check.duePlaced(x, 1, 1, 7, 0, 0, NONE, 0, 0, 0);
        // from one that fails to one that is good, and back
        x = Check.reading("l1n9n9n2r");
        check.duePlaced(x, 1, 2, 28, 0, 0, NONE, 0, 1, 0);
        dueReach(x, 2, 23, 24);
        check.duePlaced(x, 0, 1, 24, 0, 1, 0, 0, 0, 0);
        dueReach(x, 2, 24, 23);
        check.duePlaced(x, 1, 2, 28, 0, 0, NONE, 0, 1, 0);
        // the same code read once more is placed as it was, with the bytes of the text
        dueGrow(x, 1, 10, 9);
        check.due("placed(0)", x.placed(0), 0);
        Check.write(x, "l1n9n9n2r");
        check.due("code()", x.code(), 5);
        check.duePlaced(x, 1, 2, 28, 0, 0, NONE, 0, 1, 0);
    }

    @Sentence("All is done anew from the beginning")
    void islandsGoWithTheirReach() {
        FarReach x = Check.reading("bAn9n9n8rn9:A");
        check.dueIsland(x, 0, 0, 4, 32, 45);
        check.duePlaced(x, 1, 3, 45, 0, 0, NONE, 1, 0, 1);
        dueReach(x, 1, 41, 32);
        check.duePlaced(x, 1, 2, 41, 0, 0, NONE, 0, 0, 1);
        check.due("island(0, 0)", x.island(0, 0), UNKNOWN);
        dueReach(x, 1, 40, 41);
        check.duePlaced(x, 1, 3, 45, 0, 0, NONE, 1, 0, 1);
        dueReach(x, 1, 31, 40);
        check.duePlaced(x, 0, 2, 41, 0, 2, 0, 0, 0, 1);
    }
}
