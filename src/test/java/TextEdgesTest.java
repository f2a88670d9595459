/** The edges of code as a text, and of promises 1 to 5. */
final class TextEdgesTest extends Edges {
    private static final String ALL_LABELS = ":A:B:C:D:E:F:G:H";

    public static void main(String[] args) throws Exception {
        new TextEdgesTest().runAll();
    }

    // ---- code

    @Sentence("one to 24 ITEMS")
    void oneToTwentyFourItems() {
        dueCode("", STATE);
        dueCode("r", 1);
        dueCode("r".repeat(23), 23);
        dueCode("r".repeat(24), 24);
        dueCode("r".repeat(25), STATE);
        dueCode("n9".repeat(24), 24);
        dueCode("n9".repeat(24) + "r", STATE);
        dueCode("n9".repeat(25), STATE);
        dueCode("r".repeat(50), STATE);
    }

    @Sentence("one behind the other, numbered from 0")
    void itemsAreNumberedFromZero() {
        FarReach x = Check.reading("n3" + "r".repeat(22) + "l5");
        check.dueItem(x, 0, 0, 3, 0);
        check.dueItem(x, 1, 5, 0, 3);
        check.dueItem(x, 22, 5, 0, 45);
        check.dueItem(x, 23, 1, 5, 47);
        check.due("item(24, 0)", x.item(24, 0), UNKNOWN);
        check.due("item(-1, 0)", x.item(-1, 0), UNKNOWN);
        x = Check.reading("n3r");
        check.due("item(1, 0)", x.item(1, 0), 5);
        check.due("item(2, 0)", x.item(2, 0), UNKNOWN);
    }

    /** Which letters may stand behind the first one of an item. */
    private void dueSecond(String first, String fitting) {
        for (char second = 32; second < 127; second++) {
            boolean fits = fitting.indexOf(second) >= 0;
            dueFault(first + second, fits ? 2 : 1);
            if (first.equals(":")) {
                dueCode(first + second, fits ? 1 : STATE);
            } else {
                dueCode(first + second + ALL_LABELS, fits ? 9 : STATE);
            }
        }
    }

    @Sentence("\"n\" and a figure 1 to 9: PLAIN, so many bytes")
    void plainFigures() {
        dueSecond("n", "123456789");
        for (int figure = 1; figure <= 9; figure++) {
            check.dueItem(Check.reading("n" + figure), 0, 0, figure, 0, figure, 0, NONE);
        }
    }

    @Sentence("\"l\" and a figure 0 to 9: a LOAD of that VALUE, 2 bytes")
    void loadFigures() {
        dueSecond("l", "0123456789");
        for (int figure = 0; figure <= 9; figure++) {
            FarReach x = Check.reading("l" + figure + "r");
            check.dueItem(x, 0, 1, figure, 0, 2, 0, 4);
            check.dueConstant(x, 0, figure, 1, 4, 1);
        }
    }

    @Sentence("\"b\" and a letter \"A\" to \"H\": a BRANCH to that LABEL, SHORT (2 bytes) or LONG (4)")
    void branchLetters() {
        dueSecond("b", "ABCDEFGH");
        for (char label = 'A'; label <= 'H'; label++) {
            check.dueItem(Check.reading("b" + label + "n6:" + label), 0, 2, label - 'A', 0, 2, 0, 8);
            check.dueItem(Check.reading("b" + label + "n7:" + label), 0, 2, label - 'A', 0, 4, 1, 11);
        }
    }

    @Sentence("\":\" and a letter \"A\" to \"H\": that LABEL, 0 bytes")
    void labelLetters() {
        dueSecond(":", "ABCDEFGH");
        for (char label = 'A'; label <= 'H'; label++) {
            FarReach x = Check.reading("n1:" + label + "n1");
            check.dueItem(x, 1, 3, label - 'A', 1, 0, 0, NONE);
            check.dueItem(x, 2, 0, 1, 1);
        }
    }

    @Sentence("\"a\" and a figure 1 to 3: an ALIGN by 2, 4, 8")
    void alignFigures() {
        dueSecond("a", "123");
        check.dueItem(Check.reading("a1"), 0, 4, 2, 0, 0, 0, NONE);
        check.dueItem(Check.reading("a2"), 0, 4, 4, 0, 0, 0, NONE);
        check.dueItem(Check.reading("a3"), 0, 4, 8, 0, 0, 0, NONE);
    }

    @Sentence("\"r\": a RETURN, 2 bytes.")
    void returnStandsAlone() {
        for (char first = 32; first < 127; first++) {
            boolean begins = "nlb:ar".indexOf(first) >= 0;
            dueFault("" + first, begins ? 1 : 0);
            dueFault("r" + first, begins ? 2 : 1);
            dueCode("" + first, first == 'r' ? 1 : STATE);
        }
        check.dueItem(Check.reading("rr"), 1, 5, 0, 2, 2, 0, NONE);
    }

    @Sentence("No LABEL comes twice (its letter is wrong then)")
    void noLabelTwice() {
        for (char label = 'A'; label <= 'H'; label++) {
            dueFault(":" + label + ":" + label, 3);
            dueFault(ALL_LABELS.substring(0, 14).replace(label, 'H') + ":H", label == 'H' ? 16 : 15);
            dueCode(":" + label + ":" + label, STATE);
            dueCode(":" + label + "r:" + label, STATE);
            // branches to it may come as often as they like
            dueCode("b" + label + "b" + label + ":" + label + "b" + label, 4);
        }
        dueFault(ALL_LABELS, 16);
        dueCode(ALL_LABELS, 8);
        dueCode(ALL_LABELS + ":A", STATE);
    }

    @Sentence("each one to which a BRANCH leads must come somewhere")
    void branchedLabelsMustCome() {
        for (char label = 'A'; label <= 'H'; label++) {
            dueCode("b" + label, STATE);
            dueCode("b" + label + ":" + label, 2);
            dueCode(":" + label + "b" + label, 2);
            dueCode(ALL_LABELS + "b" + label, 9);
            dueCode("b" + label + ALL_LABELS, 9);
            dueCode("b" + label + ALL_LABELS.replace(":" + label, ""), STATE);
            dueCode(":" + label, 1);
        }
        // of several each one
        dueCode("bAbB:B", STATE);
        dueCode("bAbB:A", STATE);
        dueCode("bAbB:B:A", 4);
    }

    @Sentence("An object is used for at most 512 calls after it has been made")
    void fiveHundredAndTwelveCalls() {
        FarReach x = Check.reading("n9".repeat(24));
        int calls = 49;
        int had = 9;
        while (calls < 510) {
            int v = 1 + calls % 40;
            check.due("grow(23, " + v + "), call " + calls, x.grow(23, v), had);
            had = v;
            calls++;
        }
        check.due("placed(2)", x.placed(2), 23 * 9 + had);
        check.due("count(7), the 512th call", x.count(7), 461);
    }

    @Sentence("An object is used for at most 512 calls")
    void fiveHundredAndTwelveReadings() {
        FarReach x = new FarReach();
        for (int read = 1; read <= 255; read++) {
            check.due("letter(114)", x.letter('r'), 1);
            check.due("code()", x.code(), 1);
        }
        check.due("count(6), the 511th call", x.count(6), 255);
        check.due("count(7), the 512th call", x.count(7), 0);
        x = new FarReach();
        for (int altered = 1; altered <= 511; altered++) {
            check.due("reach(1, " + (4 + altered % 100) + ")", x.reach(1, 4 + altered % 100), altered == 1 ? 32 : 4 + (altered - 1) % 100);
        }
        check.due("count(7), the 512th call", x.count(7), 511);
    }

    // ---- promise 1

    @Sentence("`FarReach()`: No CODE.")
    void newObject() {
        FarReach x = new FarReach();
        check.dueCount(x, 0, 0, 0, 8, 32, 24, 0, 0);
        check.duePlaced(x, 1, 0, 0, 0, 0, NONE, 0, 0, 0);
        for (int what = -1; what <= 6; what++) {
            check.due("item(0, " + what + ")", x.item(0, what), UNKNOWN);
            check.due("island(0, " + what + ")", x.island(0, what), UNKNOWN);
            check.due("constant(0, " + what + ")", x.constant(0, what), UNKNOWN);
        }
        check.due("hops(0)", x.hops(0), UNKNOWN);
        check.due("grow(0, 1)", x.grow(0, 1), UNKNOWN);
        check.due("grow(0, 0)", x.grow(0, 0), UNKNOWN);
        check.due("fault()", x.fault(), 0);
        check.due("code()", x.code(), STATE);
        check.due("blank()", x.blank(), 0);
    }

    // ---- promise 2

    @Sentence("A letter comes behind THE PAGE, by its code: how many THE PAGE has.")
    void letterComesBehind() {
        FarReach x = new FarReach();
        check.due("letter(110)", x.letter('n'), 1);
        check.due("letter(52)", x.letter('4'), 2);
        check.due("letter(114)", x.letter('r'), 3);
        check.due("count(1)", x.count(1), 3);
        check.due("code()", x.code(), 2);
        check.dueItem(x, 0, 0, 4);
        check.due("letter(114) on the page that was read", x.letter('r'), 1);
    }

    @Sentence("OUTSIDE: code (32 to 126)")
    void letterOutside() {
        for (int code : new int[] {MIN, -65, -1, 0, 31, 127, 128, 256 + 'r', 65536 + 'r', MIN + 'r', MAX}) {
            refused("letter(" + code + ")", writing("n4"), x -> x.letter(code), OUTSIDE);
        }
        for (int code = 32; code <= 126; code++) {
            check.due("letter(" + code + ")", writing("n4").letter(code), 3);
        }
    }

    @Sentence("FULL: there are 50.")
    void letterFull() {
        FarReach x = writing("r".repeat(49));
        check.due("letter(114), the 50th", x.letter('r'), 50);
        refused("letter(114), the 51st", x, y -> y.letter('r'), FULL);
        refused("letter(32), the 51st", x, y -> y.letter(32), FULL);
        refused("letter(126), the 51st", x, y -> y.letter(126), FULL);
        check.due("count(1)", x.count(1), 50);
        x.blank();
        check.due("letter(114) on the empty page", x.letter('r'), 1);
    }

    @Sentence("of several the first as told by each call")
    void letterOutsideAheadOfFull() {
        FarReach x = writing("r".repeat(50));
        refused("letter(31), the 51st", x, y -> y.letter(31), OUTSIDE);
        refused("letter(127), the 51st", x, y -> y.letter(127), OUTSIDE);
        refused("letter(MIN), the 51st", x, y -> y.letter(MIN), OUTSIDE);
        refused("letter(MAX), the 51st", x, y -> y.letter(MAX), OUTSIDE);
    }

    // ---- promise 3

    @Sentence("THE PAGE is empty: how many letters it had.")
    void blankEmptiesThePage() {
        FarReach x = new FarReach();
        check.due("blank() of a new object", x.blank(), 0);
        x.letter('r');
        check.due("blank()", x.blank(), 1);
        check.due("blank() again", x.blank(), 0);
        check.due("count(1)", x.count(1), 0);
        Check.write(x, "?".repeat(50));
        check.due("blank() of a full page", x.blank(), 50);
        check.due("fault() of the empty page", x.fault(), 0);
        check.due("code() of the empty page", x.code(), STATE);
        Check.write(x, "n4r");
        check.due("code()", x.code(), 2);
        check.due("blank() behind code()", x.blank(), 0);
        check.due("count(0), the code stays", x.count(0), 2);
        check.due("placed(2), the code stays", x.placed(2), 6);
    }

    // ---- promise 4

    @Sentence("The place (from 0) of the first letter of THE PAGE with which, and those ahead of it, no CODE begins")
    void faultIsTheFirstLetter() {
        dueFault("?", 0);
        dueFault("?".repeat(50), 0);
        dueFault("n?", 1);
        dueFault("nn", 1);
        dueFault("rn9?n0", 3);
        dueFault("n99n0", 2);
        dueFault("r".repeat(24) + "r", 24);
        dueFault("r".repeat(24) + "n", 24);
        dueFault("r".repeat(50), 24);
        dueFault("n9".repeat(24) + "r", 48);
        dueFault("n9".repeat(25), 48);
        dueFault("r".repeat(23) + "n?", 24);
        dueFault("r".repeat(23) + "n1r", 25);
    }

    @Sentence("no CODE begins (whether all LABELS come is not asked here)")
    void faultOfTheNinthColon() {
        // all eight labels came, and no letter can stand behind one more ":"
        dueFault(ALL_LABELS + ":", 16);
        dueFault(ALL_LABELS + ":A", 16);
        dueFault(ALL_LABELS + "r:H", 17);
        // one label is left, so that code can go on
        dueFault(ALL_LABELS.substring(2) + ":", 15);
        dueFault(ALL_LABELS.substring(2) + ":A", 16);
        dueFault(ALL_LABELS.substring(2) + ":H", 15);
    }

    @Sentence("(whether all LABELS come is not asked here)")
    void faultAsksNotForLabels() {
        dueFault("bA", 2);
        dueFault("bA:B", 4);
        dueFault("bH".repeat(24), 48);
    }

    @Sentence("how many letters it has, if there is none")
    void faultOfNoFault() {
        dueFault("", 0);
        dueFault("r", 1);
        dueFault("n", 1);
        dueFault("n1", 2);
        dueFault("r".repeat(24), 24);
        dueFault("r".repeat(23) + "b", 24);
        dueFault("a3".repeat(24), 48);
        FarReach x = writing("n4r?");
        refused("fault()", x, y -> y.fault(), 3);
    }

    // ---- promise 5

    @Sentence("how many ITEMS; THE PAGE is empty then.")
    void codeEmptiesThePage() {
        FarReach x = writing("n9".repeat(24));
        check.due("code()", x.code(), 24);
        check.due("count(0)", x.count(0), 24);
        check.due("count(1)", x.count(1), 0);
        check.due("code() again", x.code(), STATE);
        check.due("count(0), the code stays", x.count(0), 24);
        check.due("letter(114)", x.letter('r'), 1);
        check.due("code() of one letter", x.code(), 1);
    }

    @Sentence("(other CODE is gone; REACHES stay)")
    void otherCodeIsGone() {
        FarReach x = Check.reading("l1bArn9n9n5:A");
        check.duePlaced(x, 1, 4, 39, 0, 0, NONE, 1, 1, 1);
        x.reach(0, 60);
        x.reach(1, 4);
        x.reach(2, 120);
        Check.write(x, "n2bB:Bn1");
        check.due("code()", x.code(), 4);
        check.dueItem(x, 1, 2, 1, 2, 2, 0, 4);
        check.duePlaced(x, 1, 1, 5, 0, 0, NONE, 0, 0, 0);
        check.dueCount(x, 4, 0, 0, 60, 4, 120, 2, 3);
        check.due("item(4, 0)", x.item(4, 0), UNKNOWN);
        check.due("island(0, 0)", x.island(0, 0), UNKNOWN);
        check.due("constant(0, 0)", x.constant(0, 0), UNKNOWN);
        // neither do labels of other code come
        Check.write(x, "bB");
        check.due("code() of a branch to a label of other code", x.code(), STATE);
    }

    @Sentence("STATE: it is none, or a LABEL to which a BRANCH leads does not come.")
    void codeRefused() {
        for (String text : new String[] {"", "n", "rn", "r?", "?r", "n0", ":A:A", "bA", "bA:B", "b", "r".repeat(25), "r".repeat(23) + "n",
            "r".repeat(50), "r ", " r"}) {
            FarReach x = Check.reading("l1bArn9n9n5:A");
            Check.write(x, text);
            refused("code() of '" + text + "'", x, y -> y.code(), STATE);
            check.due("blank()", x.blank(), text.length());
        }
        FarReach x = writing("bA");
        check.due("code()", x.code(), STATE);
        Check.write(x, ":A");
        check.due("code() of the page that went on", x.code(), 2);
    }
}
