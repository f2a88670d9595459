import java.util.Random;

/** Random runs of calls, the same on FarReach and on the model, with every answer compared. */
final class ModelTest {
    private static final int RUNS = 6000;
    private static final String[] STARTS = {"n", "l", "b", ":", "a", "r"};

    private final Check check = new Check();
    private final Random random = new Random(1637);
    private FarReach x;
    private Model model;
    private String said;

    /** What the runs met, so that a test that has become too tame is seen: by placed(4), full rows, hops. */
    private final int[] failed = new int[4];
    private int fullIslands, fullConstants, mostHops;

    public static void main(String[] args) {
        ModelTest test = new ModelTest();
        for (int run = 0; run < RUNS; run++) {
            test.oneRun(run);
        }
        test.sawEnough();
        test.check.end();
    }

    private void oneRun(int run) {
        x = new FarReach();
        model = new Model();
        said = "run " + run + ": ";
        for (int part = 0; part < 3; part++) {
            String text = random.nextInt(4) == 0 ? noise() : random.nextInt(2) == 0 ? sound() : steep();
            write(text);
            if (random.nextInt(9) == 0) due("blank()", x.blank(), model.blank());
            due("code()", x.code(), model.code());
            compareAll();
            for (int turn = random.nextInt(6); turn > 0; turn--) {
                alter();
                compareAll();
            }
        }
    }

    private void write(String text) {
        for (char letter : text.toCharArray()) {
            due("letter(" + (int) letter + ")", x.letter(letter), model.letter(letter));
        }
        due("fault()", x.fault(), model.fault());
    }

    /** Letters that seldom are code, more than fit. */
    private String noise() {
        StringBuilder text = new StringBuilder();
        int length = random.nextInt(60);
        while (text.length() < length) {
            text.append(STARTS[random.nextInt(6)]);
            if (random.nextInt(20) != 0) text.append("123456789ABCDEFGH0:rIa4".charAt(random.nextInt(random.nextInt(2) == 0 ? 3 : 23)));
            if (random.nextInt(30) == 0) text.append((char) random.nextInt(200));
        }
        return text.toString();
    }

    /** Code of all kinds of items. */
    private String sound() {
        int labels = 1 + random.nextInt(8);
        int values = 1 + random.nextInt(10);
        boolean[] came = new boolean[labels];
        StringBuilder text = new StringBuilder();
        int free = 24 - labels;
        for (int item = random.nextInt(free + 1); item > 0; item--) {
            appendItem(text, random.nextInt(12), labels, values, came);
        }
        for (int label = 0; label < labels; label++) {
            if (!came[label]) text.append(':').append((char) ('A' + label));
        }
        return text.toString();
    }

    private void appendItem(StringBuilder text, int dice, int labels, int values, boolean[] came) {
        int label = random.nextInt(labels);
        if (dice < 3) {
            text.append('n').append(1 + random.nextInt(9));
        } else if (dice < 5) {
            text.append('l').append(random.nextInt(values));
        } else if (dice < 7) {
            text.append('b').append((char) ('A' + label));
        } else if (dice == 7) {
            text.append('a').append(1 + random.nextInt(3));
        } else if (dice == 8 && !came[label]) {
            came[label] = true;
            text.append(':').append((char) ('A' + label));
        } else {
            text.append('r');
        }
    }

    /** Code of which much must be mended: one label far off, plain bytes and returns between, many loads or branches. */
    private String steep() {
        boolean labelFirst = random.nextBoolean();
        boolean loads = random.nextBoolean();
        StringBuilder text = new StringBuilder(labelFirst ? ":A" : "");
        for (int item = 22; item > 0 && text.length() < 46; item--) {
            int dice = random.nextInt(10);
            if (dice < 3) text.append("n9");
            else if (dice < 6) text.append('r');
            else if (loads && dice < 9) text.append('l').append(random.nextInt(10));
            else text.append("bA");
        }
        return text.append(labelFirst ? "" : ":A").append('r').toString();
    }

    private void alter() {
        int dice = random.nextInt(8);
        if (dice < 4) {
            int what = random.nextInt(20) == 0 ? random.nextInt(7) - 3 : random.nextInt(3);
            int v = random.nextInt(2) == 0 ? random.nextInt(130) : 2 + random.nextInt(30);
            due("reach(" + what + ", " + v + ")", x.reach(what, v), model.reach(what, v));
        } else {
            int item = random.nextInt(28) - 2;
            int v = random.nextInt(44) - 1;
            due("grow(" + item + ", " + v + ")", x.grow(item, v), model.grow(item, v));
        }
    }

    private void compareAll() {
        for (int what = -1; what <= 9; what++) {
            due("placed(" + what + ")", x.placed(what), model.placed(what));
            due("count(" + what + ")", x.count(what), model.count(what));
        }
        for (int number = -1; number <= 24; number++) {
            due("hops(" + number + ")", x.hops(number), model.hops(number));
            mostHops = Math.max(mostHops, model.hops(number));
            for (int what = -1; what <= 6; what++) {
                due("item(" + number + ", " + what + ")", x.item(number, what), model.item(number, what));
            }
        }
        for (int number = -1; number <= 16; number++) {
            for (int what = -1; what <= 4; what++) {
                due("island(" + number + ", " + what + ")", x.island(number, what), model.island(number, what));
                due("constant(" + number + ", " + what + ")", x.constant(number, what), model.constant(number, what));
            }
        }
        due("digest()", x.digest(), model.digest());
        failed[model.failedAt]++;
        if (model.failedAt > 1 && model.islands.size() == 12) fullIslands++;
        if (model.failedAt == 1 && model.constants.size() == 16) fullConstants++;
    }

    private void due(String call, long got, long want) {
        check.due(said + call, got, want);
    }

    private void sawEnough() {
        System.out.println("good " + failed[0] + ", failed at loads " + failed[1] + ", branches " + failed[2] + ", islands " + failed[3]
            + "; twelve islands " + fullIslands + ", sixteen constants " + fullConstants + ", most hops " + mostHops);
        for (int at = 0; at < 4; at++) {
            check.due("runs that end at " + at + " are many enough", failed[at] > 100 ? 1 : 0, 1);
        }
        check.due("runs with too many islands are met", fullIslands > 10 ? 1 : 0, 1);
        check.due("hops over several islands are met", mostHops > 2 ? 1 : 0, 1);
    }
}
