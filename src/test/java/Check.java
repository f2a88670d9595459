/** Compares answers with those that are due; each test makes one, and ends with it. */
final class Check {
    private int asked;
    private int wrong;

    void due(String call, long got, long want) {
        asked++;
        if (got != want) {
            wrong++;
            System.out.println(call + " answered " + got + ", due is " + want);
        }
    }

    int wrong() {
        return wrong;
    }

    /** Ends the program: with exit code 1 if an answer was wrong, or none was asked. */
    void end() {
        System.out.println(asked + " answers, " + wrong + " of them not as due");
        System.exit(wrong == 0 && asked > 0 ? 0 : 1);
    }

    static void write(FarReach x, String text) {
        for (int place = 0; place < text.length(); place++) {
            x.letter(text.charAt(place));
        }
    }

    /** A new object that has tried to read the text as code. */
    static FarReach reading(String text) {
        FarReach x = new FarReach();
        write(x, text);
        x.code();
        return x;
    }

    /** What item() is due to answer for what = 0, 1 and so on; the others below are alike. */
    void dueItem(FarReach x, int item, int... want) {
        for (int what = 0; what < want.length; what++) {
            due("item(" + item + ", " + what + ")", x.item(item, what), want[what]);
        }
    }

    void dueIsland(FarReach x, int island, int... want) {
        for (int what = 0; what < want.length; what++) {
            due("island(" + island + ", " + what + ")", x.island(island, what), want[what]);
        }
    }

    void dueConstant(FarReach x, int constant, int... want) {
        for (int what = 0; what < want.length; what++) {
            due("constant(" + constant + ", " + what + ")", x.constant(constant, what), want[what]);
        }
    }

    void duePlaced(FarReach x, int... want) {
        for (int what = 0; what < want.length; what++) {
            due("placed(" + what + ")", x.placed(what), want[what]);
        }
    }

    void dueCount(FarReach x, int... want) {
        for (int what = 0; what < want.length; what++) {
            due("count(" + what + ")", x.count(what), want[what]);
        }
    }
}
