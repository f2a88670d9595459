/** Promises 1 to 5: a new object, and the page of letters that becomes code. */
final class TextsTest {
    private static final int[] EXTREMES = {Integer.MIN_VALUE, -1004, -1, 0, 31, 127, 128, 1000, Integer.MAX_VALUE};

    private final Check check = new Check();

    public static void main(String[] args) {
        TextsTest test = new TextsTest();
        test.promise1NewObject();
        test.promise2Letter();
        test.promise3Blank();
        test.promise4Fault();
        test.promise4FaultChangesNothing();
        test.promise5Code();
        test.promise5CodeRefused();
        test.promise5OtherCodeIsGone();
        test.check.end();
    }

    private void promise1NewObject() {
        FarReach x = new FarReach();
        check.dueCount(x, 0, 0, 0, 8, 32, 24, 0, 0, FarReach.OUTSIDE);
        check.duePlaced(x, 1, 0, 0, 0, 0, FarReach.NONE, 0, 0, 0, FarReach.OUTSIDE);
        check.due("item(0, 0)", x.item(0, 0), FarReach.UNKNOWN);
        check.due("island(0, 0)", x.island(0, 0), FarReach.UNKNOWN);
        check.due("constant(0, 0)", x.constant(0, 0), FarReach.UNKNOWN);
        check.due("hops(0)", x.hops(0), FarReach.UNKNOWN);
        check.due("grow(0, 1)", x.grow(0, 1), FarReach.UNKNOWN);
        check.due("fault()", x.fault(), 0);
        check.due("code()", x.code(), FarReach.STATE);
        check.due("blank()", x.blank(), 0);
    }

    private void promise2Letter() {
        FarReach x = new FarReach();
        for (int code : EXTREMES) {
            check.due("letter(" + code + ")", x.letter(code), FarReach.OUTSIDE);
        }
        check.due("letter(32)", x.letter(32), 1);
        check.due("letter(126)", x.letter(126), 2);
        check.due("count(1)", x.count(1), 2);
        for (int letters = 3; letters <= 50; letters++) {
            check.due("letter(" + (30 + letters) + ")", x.letter(30 + letters), letters);
        }
        check.due("letter(114), the 51st", x.letter(114), FarReach.FULL);
        check.due("letter(31), the 51st", x.letter(31), FarReach.OUTSIDE);
        check.due("letter(127), the 51st", x.letter(127), FarReach.OUTSIDE);
        check.due("count(1)", x.count(1), 50);
    }

    private void promise3Blank() {
        FarReach x = Check.reading("n4r");
        Check.write(x, "xyz");
        long rounds = x.placed(1);
        check.due("blank()", x.blank(), 3);
        check.due("blank() again", x.blank(), 0);
        check.due("count(1)", x.count(1), 0);
        check.due("count(0), the code stays", x.count(0), 2);
        check.due("placed(1), the code stays", x.placed(1), rounds);
        Check.write(x, "r".repeat(50));
        check.due("blank() of a full page", x.blank(), 50);
        check.due("letter(114) then", x.letter(114), 1);
    }

    private void dueFault(String text, int place) {
        FarReach x = new FarReach();
        Check.write(x, text);
        check.due("fault() of '" + text + "'", x.fault(), place);
    }

    private void promise4Fault() {
        String labels = ":A:B:C:D:E:F:G:H";
        dueFault("", 0);
        dueFault("n", 1);
        dueFault("n1", 2);
        dueFault("n9", 2);
        dueFault("n0", 1);
        dueFault("n:", 1);
        dueFault("n12", 2);
        dueFault("l0l9", 4);
        dueFault("l/", 1);
        dueFault("l:", 1);
        dueFault("lA", 1);
        dueFault("bAbH", 4);
        dueFault("b@", 1);
        dueFault("bI", 1);
        dueFault("ba", 1);
        dueFault("b1", 1);
        dueFault(":A:H", 4);
        dueFault(":@", 1);
        dueFault(":I", 1);
        dueFault("a1a2a3", 6);
        dueFault("a0", 1);
        dueFault("a4", 1);
        dueFault("rr", 2);
        dueFault("r1", 1);
        dueFault("x", 0);
        dueFault("N1", 0);
        dueFault(" n1", 0);
        dueFault("n1 ", 2);
        dueFault("A", 0);
        dueFault(":A:A", 3);
        dueFault(":A:", 3);
        dueFault(":AbA:BbA:A", 9);
        dueFault("bA", 2);
        dueFault("bAx", 2);
        dueFault("r".repeat(24), 24);
        dueFault("r".repeat(25), 24);
        dueFault("n9".repeat(24), 48);
        dueFault("n9".repeat(24) + "n", 48);
        dueFault("r".repeat(23) + "n", 24);
        dueFault("r".repeat(23) + "nr", 24);
        dueFault("r".repeat(24) + "x", 24);
        dueFault(labels, 16);
        dueFault(labels + "bH", 18);
        dueFault(labels + ":", 16);
        dueFault(labels + ":A", 16);
        dueFault("?".repeat(50), 0);
    }

    private void promise4FaultChangesNothing() {
        FarReach x = Check.reading("n4rl1r");
        Check.write(x, ":Bn9?");
        long before = x.digest();
        check.due("fault()", x.fault(), 4);
        check.due("fault() again", x.fault(), 4);
        check.due("digest() stays", x.digest(), before);
    }

    private void dueCode(String text, int answer) {
        FarReach x = new FarReach();
        Check.write(x, text);
        check.due("code() of '" + text + "'", x.code(), answer);
        check.due("count(6) behind '" + text + "'", x.count(6), answer < 0 ? 0 : 1);
        check.due("count(0) behind '" + text + "'", x.count(0), answer < 0 ? 0 : answer);
        check.due("count(1) behind '" + text + "'", x.count(1), answer < 0 ? text.length() : 0);
    }

    private void promise5Code() {
        dueCode("r", 1);
        dueCode("n1", 1);
        dueCode(":A", 1);
        dueCode("l0", 1);
        dueCode("bH:H", 2);
        dueCode(":HbHbH", 3);
        dueCode("n1l2a3rbC:C", 6);
        dueCode(":A:B:C:D:E:F:G:H", 8);
        dueCode("r".repeat(24), 24);
        dueCode("n9".repeat(24), 24);
    }

    private void promise5CodeRefused() {
        dueCode("", FarReach.STATE);
        dueCode("n", FarReach.STATE);
        dueCode("n1l", FarReach.STATE);
        dueCode("n0", FarReach.STATE);
        dueCode("bA", FarReach.STATE);
        dueCode("bA:B", FarReach.STATE);
        dueCode(":AbAbB", FarReach.STATE);
        dueCode(":A:A", FarReach.STATE);
        dueCode("r".repeat(25), FarReach.STATE);
        dueCode("rx", FarReach.STATE);
        dueCode("r ", FarReach.STATE);
        FarReach x = Check.reading("n4rl1r");
        Check.write(x, "bA");
        long before = x.digest();
        check.due("code()", x.code(), FarReach.STATE);
        check.due("digest() stays", x.digest(), before);
        Check.write(x, ":A");
        check.due("code() of the page that went on", x.code(), 2);
    }

    private void promise5OtherCodeIsGone() {
        FarReach x = Check.reading("l1l2rn3rn9bAn9:A");
        check.due("placed(7)", x.placed(7), 2);
        check.due("placed(8)", x.placed(8), 1);
        x.grow(3, 30);
        x.reach(0, 60);
        x.reach(1, 77);
        x.reach(2, 99);
        Check.write(x, "n3n3rn3");
        check.due("code()", x.code(), 4);
        check.dueCount(x, 4, 0, 1, 60, 77, 99, 2, 4);
        check.duePlaced(x, 1, 1, 11, 0, 0, FarReach.NONE, 0, 0, 0);
        check.dueItem(x, 3, 0, 3, 8, 3, 0, FarReach.NONE);
        check.due("item(4, 0)", x.item(4, 0), FarReach.UNKNOWN);
        check.due("constant(0, 0)", x.constant(0, 0), FarReach.UNKNOWN);
        check.due("constant(1, 0)", x.constant(1, 0), FarReach.UNKNOWN);
    }
}
