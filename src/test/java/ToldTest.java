/** Promises 13 and 14: what is told of all. */
final class ToldTest {
    private final Check check = new Check();

    public static void main(String[] args) {
        ToldTest test = new ToldTest();
        test.promise13Count();
        test.promise13CountRefused();
        test.promise14Digest();
        test.check.end();
    }

    private void promise13Count() {
        FarReach x = new FarReach();
        Check.write(x, "rrn1r");
        check.dueCount(x, 0, 5, 0, 8, 32, 24, 0, 0);
        x.code();
        check.dueCount(x, 4, 0, 3, 8, 32, 24, 1, 0);
        x.reach(0, 9);
        x.reach(1, 33);
        x.reach(2, 25);
        check.dueCount(x, 4, 0, 3, 9, 33, 25, 1, 3);
        x.reach(2, 25);
        x.grow(2, 1);
        check.dueCount(x, 4, 0, 3, 9, 33, 25, 1, 5);
        x.reach(3, 25);
        x.reach(0, 1);
        x.grow(0, 1);
        x.grow(2, 41);
        x.grow(4, 1);
        x.code();
        check.dueCount(x, 4, 0, 3, 9, 33, 25, 1, 5);
        Check.write(x, "n1");
        x.code();
        check.dueCount(x, 1, 0, 0, 9, 33, 25, 2, 5);
    }

    private void promise13CountRefused() {
        FarReach x = Check.reading("rr");
        for (int what : new int[] {-1, 8, Integer.MIN_VALUE, Integer.MAX_VALUE}) {
            check.due("count(" + what + ")", x.count(what), FarReach.OUTSIDE);
        }
    }

    private void promise14Digest() {
        FarReach x = new FarReach();
        check.due("digest() of a new object", x.digest(), -4681064281904330019L);
        dueDigest(x);
        Check.write(x, "l4bBl5n9rn9n9:Br");
        dueDigest(x);
        x.code();
        check.due("placed(6), so that islands are told", x.placed(6), 1);
        check.due("placed(7), so that constants are told", x.placed(7), 2);
        dueDigest(x);
        Check.write(x, "~ A");
        dueDigest(x);
        long before = x.digest();
        x.reach(0, 8);
        check.due("digest() is another one, as count(7) is", x.digest(), before + 1);
        x.grow(3, 40);
        dueDigest(x);
    }

    private void dueDigest(FarReach x) {
        long h = 1637;
        for (int item = 0; item < x.count(0); item++) {
            for (int what = 0; what <= 5; what++) h = 31 * h + x.item(item, what);
        }
        for (int island = 0; island < x.placed(6); island++) {
            for (int what = 0; what <= 3; what++) h = 31 * h + x.island(island, what);
        }
        for (int constant = 0; constant < x.placed(7); constant++) {
            for (int what = 0; what <= 3; what++) h = 31 * h + x.constant(constant, what);
        }
        for (int what = 0; what <= 8; what++) h = 31 * h + x.placed(what);
        for (int letter : pageOf(x)) h = 31 * h + letter;
        for (int what = 0; what <= 7; what++) h = 31 * h + x.count(what);
        check.due("digest()", x.digest(), h);
    }

    /** The letters that this test had put on the page, told by how many there are. */
    private static int[] pageOf(FarReach x) {
        String[] pages = {"", "~ A", "l4bBl5n9rn9n9:Br"};
        for (String page : pages) {
            if (page.length() == x.count(1)) return page.chars().toArray();
        }
        return new int[0];
    }
}
