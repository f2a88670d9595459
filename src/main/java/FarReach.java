/** Lays out code whose loads and branches reach just so far, and mends what does not reach. */
public final class FarReach {
    public static final int NONE = -1, UNKNOWN = -1001, OUTSIDE = -1002, STATE = -1003, FULL = -1004;

    private static final int PLAIN = 0, LOAD = 1, BRANCH = 2, LABEL = 3, ALIGN = 4, RETURN = 5;
    private static final int SHORT = 0, LONG = 1, LOADS = 2;
    private static final int NOWHERE = 0, AT_LOAD = 1, AT_BRANCH = 2, AT_ISLAND = 3;

    private static final int MOST_LETTERS = 50, MOST_ITEMS = 24, MOST_ISLANDS = 12, MOST_CONSTANTS = 16;
    private static final int MOST_BYTES = 40;
    private static final int LABELS = 8;
    /** What an island or a constant has, and what divides the address of a constant. */
    private static final int UNIT = 4;
    /** Each round but the last makes a branch long, or brings a constant or an island. */
    private static final int MOST_ROUNDS = MOST_ITEMS + MOST_CONSTANTS + MOST_ISLANDS + 1;

    private static final int[] LEAST_REACH = {2, 4, 4};
    private static final int[] MOST_REACH = {60, 120, 120};

    private static final int ITEM_TOLD = 6, ISLAND_TOLD = 4, CONSTANT_TOLD = 4, PLACED_TOLD = 9, COUNT_TOLD = 8;

    private final Page page;
    private final Reader reader;
    private final Items program;
    private final int[] reaches;
    private final Placing placing;
    private int timesRead;
    private int timesAltered;

    public FarReach() {
        page = new Page();
        reader = new Reader();
        program = new Items();
        reaches = new int[] {8, 32, 24};
        placing = new Placing(program, reaches);
    }

    // ---- texts

    public int letter(int code) {
        if (code < 32 || code > 126) {
            return OUTSIDE;
        }
        return page.append(code) ? page.length() : FULL;
    }

    public int blank() {
        int had = page.length();
        page.clear();
        return had;
    }

    public int fault() {
        return reader.read(page);
    }

    public int code() {
        if (reader.read(page) < page.length() || !reader.isWhole()) {
            return STATE;
        }
        program.takeFrom(reader.items);
        page.clear();
        timesRead++;
        placing.placeAll();
        return program.size();
    }

    // ---- what is altered

    public int reach(int what, int v) {
        if (what < SHORT || what > LOADS) {
            return OUTSIDE;
        }
        if (v < LEAST_REACH[what] || v > MOST_REACH[what]) {
            return OUTSIDE;
        }
        int was = reaches[what];
        reaches[what] = v;
        timesAltered++;
        placing.placeAll();
        return was;
    }

    public int grow(int item, int v) {
        if (!program.has(item)) {
            return UNKNOWN;
        }
        if (v < 1 || v > MOST_BYTES) {
            return OUTSIDE;
        }
        if (program.kindOf(item) != PLAIN) {
            return STATE;
        }
        int had = program.toldOf(item);
        program.tell(item, v);
        timesAltered++;
        placing.placeAll();
        return had;
    }

    // ---- what is placed

    public int item(int item, int what) {
        if (!program.has(item)) {
            return UNKNOWN;
        }
        switch (what) {
            case 0: return program.kindOf(item);
            case 1: return program.toldOf(item);
            case 2: return placing.addressOf(item);
            case 3: return placing.sizeOf(item);
            case 4: return placing.isLong(item) ? 1 : 0;
            case 5: return placing.aimOf(item);
            default: return OUTSIDE;
        }
    }

    public int island(int island, int what) {
        Stock islands = placing.islands;
        if (!islands.has(island)) {
            return UNKNOWN;
        }
        switch (what) {
            case 0: return islands.nameOf(island);
            case 1: return islands.returnOf(island);
            case 2: return islands.addressOf(island);
            case 3: return placing.islandAimOf(island);
            default: return OUTSIDE;
        }
    }

    public int constant(int constant, int what) {
        Stock constants = placing.constants;
        if (!constants.has(constant)) {
            return UNKNOWN;
        }
        switch (what) {
            case 0: return constants.nameOf(constant);
            case 1: return constants.returnOf(constant);
            case 2: return constants.addressOf(constant);
            case 3: return placing.loadsOf(constant);
            default: return OUTSIDE;
        }
    }

    public int hops(int item) {
        if (!program.has(item)) {
            return UNKNOWN;
        }
        if (program.kindOf(item) != BRANCH) {
            return STATE;
        }
        return placing.hopsFrom(item);
    }

    public int placed(int what) {
        switch (what) {
            case 0: return placing.failedAt == NOWHERE ? 1 : 0;
            case 1: return placing.rounds;
            case 2: return placing.bytes;
            case 3: return placing.filled;
            case 4: return placing.failedAt;
            case 5: return placing.failedNumber;
            case 6: return placing.islands.size();
            case 7: return placing.constants.size();
            case 8: return placing.longBranches;
            default: return OUTSIDE;
        }
    }

    // ---- what is told of all

    public int count(int what) {
        switch (what) {
            case 0: return program.size();
            case 1: return page.length();
            case 2: return program.gaps();
            case 3: return reaches[SHORT];
            case 4: return reaches[LONG];
            case 5: return reaches[LOADS];
            case 6: return timesRead;
            case 7: return timesAltered;
            default: return OUTSIDE;
        }
    }

    public long digest() {
        long h = digestItems(1637L);
        h = digestIslands(h);
        h = digestConstants(h);
        for (int what = 0; what < PLACED_TOLD; what++) {
            h = 31L * h + placed(what);
        }
        for (int place = 0; place < page.length(); place++) {
            h = 31L * h + page.letterAt(place);
        }
        for (int what = 0; what < COUNT_TOLD; what++) {
            h = 31L * h + count(what);
        }
        return h;
    }

    private long digestItems(long from) {
        long h = from;
        for (int item = 0; item < program.size(); item++) {
            for (int what = 0; what < ITEM_TOLD; what++) {
                h = 31L * h + item(item, what);
            }
        }
        return h;
    }

    private long digestIslands(long from) {
        long h = from;
        for (int island = 0; island < placing.islands.size(); island++) {
            for (int what = 0; what < ISLAND_TOLD; what++) {
                h = 31L * h + island(island, what);
            }
        }
        return h;
    }

    private long digestConstants(long from) {
        long h = from;
        for (int constant = 0; constant < placing.constants.size(); constant++) {
            for (int what = 0; what < CONSTANT_TOLD; what++) {
                h = 31L * h + constant(constant, what);
            }
        }
        return h;
    }

    /** How much two addresses differ. */
    private static int far(int a, int b) {
        return a < b ? b - a : a - b;
    }

    /** How few bytes bring an address up to one that the divisor, a power of two, divides. */
    private static int fillTo(int divisor, int address) {
        return -address & (divisor - 1);
    }

    /** The letters that wait to be read. */
    private static final class Page {
        private final int[] letters = new int[MOST_LETTERS];
        private int length;

        int length() {
            return length;
        }

        boolean append(int letter) {
            if (length < 0 || length >= letters.length) {
                return false;
            }
            letters[length] = letter;
            length++;
            return true;
        }

        void clear() {
            length = 0;
        }

        int letterAt(int place) {
            return place >= 0 && place < length && place < letters.length ? letters[place] : NONE;
        }
    }

    /** Reads a page, as far as its letters begin code, and keeps the items that it met. */
    private static final class Reader {
        private static final int ALL_LABELS = (1 << LABELS) - 1;

        private final Items items = new Items();
        /** The kind of the item of which only the first letter has come, or NONE. */
        private int open;
        /** Of labels, a bit each: those that came, and those to which branches lead. */
        private int labelsMet;
        private int labelsWanted;

        /** The place of the first letter with which no code begins, or the page's length. */
        int read(Page page) {
            items.clear();
            open = NONE;
            labelsMet = 0;
            labelsWanted = 0;
            for (int place = 0; place < page.length(); place++) {
                int letter = page.letterAt(place);
                boolean fits = open == NONE ? begins(letter) : ends(letter);
                if (!fits) {
                    return place;
                }
            }
            return page.length();
        }

        /** Whether the letters that were read, if none was wrong, are code as they stand. */
        boolean isWhole() {
            return items.size() > 0 && open == NONE && (labelsWanted & ~labelsMet) == 0;
        }

        private boolean begins(int letter) {
            int kind = kindBegunBy(letter);
            if (kind == NONE || items.size() >= MOST_ITEMS) {
                return false;
            }
            if (kind == RETURN) {
                return items.add(RETURN, 0);
            }
            // once all labels came, no letter could stand behind one more ":"
            if (kind == LABEL && labelsMet == ALL_LABELS) {
                return false;
            }
            open = kind;
            return true;
        }

        private boolean ends(int letter) {
            int kind = open;
            open = NONE;
            switch (kind) {
                case PLAIN: return letter >= '1' && letter <= '9' && items.add(PLAIN, letter - '0');
                case LOAD: return letter >= '0' && letter <= '9' && items.add(LOAD, letter - '0');
                case ALIGN: return letter >= '1' && letter <= '3' && items.add(ALIGN, 1 << (letter - '0'));
                default: return letter >= 'A' && letter < 'A' + LABELS && endsWithLabel(kind, letter - 'A');
            }
        }

        private boolean endsWithLabel(int kind, int label) {
            int bit = 1 << label;
            if (kind == BRANCH) {
                labelsWanted |= bit;
                return items.add(BRANCH, label);
            }
            if ((labelsMet & bit) != 0) {
                return false;
            }
            labelsMet |= bit;
            return items.add(LABEL, label);
        }

        private static int kindBegunBy(int letter) {
            switch (letter) {
                case 'n': return PLAIN;
                case 'l': return LOAD;
                case 'b': return BRANCH;
                case ':': return LABEL;
                case 'a': return ALIGN;
                case 'r': return RETURN;
                default: return NONE;
            }
        }
    }

    /** A row of items: what kinds they are, and what is told of them. */
    private static final class Items {
        private final int[] kinds = new int[MOST_ITEMS];
        private final int[] told = new int[MOST_ITEMS];
        private int size;
        private int gaps;

        void clear() {
            size = 0;
            gaps = 0;
        }

        /** Whether there was room for one more. */
        boolean add(int kind, int what) {
            if (size < 0 || size >= kinds.length || size >= told.length) {
                return false;
            }
            kinds[size] = kind;
            told[size] = what;
            if (kind == RETURN) {
                gaps++;
            }
            size++;
            return true;
        }

        void takeFrom(Items other) {
            clear();
            for (int item = 0; item < other.size() && item < MOST_ITEMS; item++) {
                add(other.kindOf(item), other.toldOf(item));
            }
        }

        int size() {
            return size;
        }

        int gaps() {
            return gaps;
        }

        boolean has(int item) {
            return item >= 0 && item < size && item < kinds.length && item < told.length;
        }

        int kindOf(int item) {
            return has(item) ? kinds[item] : NONE;
        }

        int toldOf(int item) {
            return has(item) ? told[item] : NONE;
        }

        void tell(int item, int what) {
            if (has(item)) {
                told[item] = what;
            }
        }
    }

    /** All islands, or all constants: things of one unit each that lie in gaps, told by their returns. */
    private static final class Stock {
        /** Of each thing: its label or value, the return of its gap, its place among those of the gap. */
        private final int[] names;
        private final int[] returns;
        private final int[] places;
        /** Of each gap, by its return: how many are in it, and where the first of them lies. */
        private final int[] inGap = new int[MOST_ITEMS];
        private final int[] starts = new int[MOST_ITEMS];
        private int size;

        Stock(int most) {
            int rows = Math.max(0, most);
            names = new int[rows];
            returns = new int[rows];
            places = new int[rows];
        }

        void clear() {
            size = 0;
            for (int item = 0; item < MOST_ITEMS; item++) {
                inGap[item] = 0;
                starts[item] = 0;
            }
        }

        int size() {
            return size;
        }

        boolean has(int number) {
            return number >= 0 && number < size && number < names.length;
        }

        /** Whether there was room for one more, behind those of the gap. */
        boolean add(int name, int returnItem) {
            if (size < 0 || size >= names.length || !isItem(returnItem)) {
                return false;
            }
            names[size] = name;
            returns[size] = returnItem;
            places[size] = inGap[returnItem];
            inGap[returnItem]++;
            size++;
            return true;
        }

        /** Lays those of a gap from an address on; answers the address behind them. */
        int lay(int returnItem, int address) {
            if (!isItem(returnItem)) {
                return address;
            }
            starts[returnItem] = address;
            return address + UNIT * inGap[returnItem];
        }

        boolean isIn(int returnItem) {
            return isItem(returnItem) && inGap[returnItem] > 0;
        }

        /** The address behind those of a gap, as they are laid. */
        int endOf(int returnItem) {
            return isItem(returnItem) ? starts[returnItem] + UNIT * inGap[returnItem] : NONE;
        }

        int nameOf(int number) {
            return has(number) ? names[number] : NONE;
        }

        int returnOf(int number) {
            return has(number) ? returns[number] : NONE;
        }

        int addressOf(int number) {
            if (!has(number)) {
                return NONE;
            }
            int returnItem = returns[number];
            return isItem(returnItem) ? starts[returnItem] + UNIT * places[number] : NONE;
        }

        private static boolean isItem(int item) {
            return item >= 0 && item < MOST_ITEMS;
        }
    }

    /** Lays the program round by round, and mends one thing in each. */
    private static final class Placing {
        private final Items program;
        private final int[] reaches;
        private final Stock islands = new Stock(MOST_ISLANDS);
        private final Stock constants = new Stock(MOST_CONSTANTS);
        private final boolean[] longs = new boolean[MOST_ITEMS];
        private final int[] addresses = new int[MOST_ITEMS];
        private final int[] sizes = new int[MOST_ITEMS];
        private final int[] labelAddresses = new int[LABELS];
        /** The addresses to which items and islands go as all is laid, or NONE. */
        private final int[] aims = new int[MOST_ITEMS];
        private final int[] islandAims = new int[MOST_ISLANDS];
        private int longBranches;
        private int rounds;
        private int bytes;
        private int filled;
        private int failedAt = NOWHERE;
        private int failedNumber = NONE;

        Placing(Items program, int[] reaches) {
            this.program = program;
            this.reaches = reaches;
        }

        void placeAll() {
            clear();
            if (program.size() == 0) {
                return;
            }
            boolean mended = true;
            while (mended && rounds < MOST_ROUNDS) {
                rounds++;
                lay();
                aimItems();
                aimIslands();
                mended = mendsOne();
            }
        }

        private void clear() {
            islands.clear();
            constants.clear();
            for (int item = 0; item < MOST_ITEMS; item++) {
                longs[item] = false;
            }
            longBranches = 0;
            rounds = 0;
            bytes = 0;
            filled = 0;
            failedAt = NOWHERE;
            failedNumber = NONE;
        }

        // -- laying

        private void lay() {
            int address = 0;
            filled = 0;
            for (int item = 0; item < program.size() && item < MOST_ITEMS; item++) {
                int kind = program.kindOf(item);
                int size = sizeAt(item, address);
                addresses[item] = address;
                sizes[item] = size;
                address += size;
                if (kind == ALIGN) {
                    filled += size;
                } else if (kind == LABEL) {
                    noteLabel(program.toldOf(item), address);
                } else if (kind == RETURN) {
                    address = layGap(item, address);
                }
            }
            bytes = address;
        }

        private int sizeAt(int item, int address) {
            switch (program.kindOf(item)) {
                case PLAIN: return program.toldOf(item);
                case LOAD: return 2;
                case BRANCH: return isLong(item) ? 4 : 2;
                case ALIGN: return fillTo(program.toldOf(item), address);
                case RETURN: return 2;
                default: return 0;
            }
        }

        private void noteLabel(int label, int address) {
            if (label >= 0 && label < labelAddresses.length) {
                labelAddresses[label] = address;
            }
        }

        private int layGap(int returnItem, int address) {
            int start = islands.lay(returnItem, address);
            if (constants.isIn(returnItem)) {
                int fill = fillTo(UNIT, start);
                filled += fill;
                start += fill;
            }
            return constants.lay(returnItem, start);
        }

        int addressOf(int item) {
            return item >= 0 && item < addresses.length ? addresses[item] : NONE;
        }

        int sizeOf(int item) {
            return item >= 0 && item < sizes.length ? sizes[item] : NONE;
        }

        boolean isLong(int item) {
            return item >= 0 && item < longs.length && longs[item];
        }

        private int labelAddress(int label) {
            return label >= 0 && label < labelAddresses.length ? labelAddresses[label] : NONE;
        }

        // -- reaching

        private void aimItems() {
            for (int item = 0; item < program.size() && item < aims.length; item++) {
                int told = program.toldOf(item);
                switch (program.kindOf(item)) {
                    case LOAD:
                        aims[item] = constants.addressOf(constantFor(addressOf(item), told));
                        break;
                    case BRANCH:
                        aims[item] = isLong(item) ? longAim(addressOf(item), told) : shortAim(addressOf(item), told);
                        break;
                    default:
                        aims[item] = NONE;
                        break;
                }
            }
        }

        private void aimIslands() {
            for (int island = 0; island < islands.size() && island < islandAims.length; island++) {
                islandAims[island] = longAim(islands.addressOf(island), islands.nameOf(island));
            }
        }

        private int shortAim(int from, int label) {
            int to = labelAddress(label);
            return far(from, to) <= reaches[SHORT] ? to : NONE;
        }

        private int longAim(int from, int label) {
            if (goesStraight(from, label)) {
                return labelAddress(label);
            }
            return islands.addressOf(islandFor(from, label));
        }

        private boolean goesStraight(int from, int label) {
            return far(from, labelAddress(label)) <= reaches[LONG];
        }

        /** The island over which one goes from an address to a label out of reach, or NONE. */
        private int islandFor(int from, int label) {
            int to = labelAddress(label);
            int best = NONE;
            int least = far(from, to);
            for (int island = 0; island < islands.size(); island++) {
                int address = islands.addressOf(island);
                int left = far(address, to);
                boolean leads = islands.nameOf(island) == label && far(address, from) <= reaches[LONG];
                boolean ahead = best != NONE && left == least && address < islands.addressOf(best);
                if (leads && (left < least || ahead)) {
                    best = island;
                    least = left;
                }
            }
            return best;
        }

        /** The nearest constant of a value behind an address that is in reach, or NONE. */
        private int constantFor(int from, int value) {
            int best = NONE;
            for (int constant = 0; constant < constants.size(); constant++) {
                int address = constants.addressOf(constant);
                if (constants.nameOf(constant) == value && isInLoadReach(from, address)
                        && (best == NONE || address < constants.addressOf(best))) {
                    best = constant;
                }
            }
            return best;
        }

        private boolean isInLoadReach(int from, int address) {
            return address > from && address - from <= reaches[LOADS];
        }

        int aimOf(int item) {
            return item >= 0 && item < aims.length ? aims[item] : NONE;
        }

        int islandAimOf(int island) {
            return island >= 0 && island < islandAims.length ? islandAims[island] : NONE;
        }

        int loadsOf(int constant) {
            int address = constants.addressOf(constant);
            int loads = 0;
            for (int item = 0; item < program.size(); item++) {
                if (program.kindOf(item) == LOAD && aimOf(item) == address) {
                    loads++;
                }
            }
            return loads;
        }

        /** Through how many islands one goes from a branch to its label, or NONE. */
        int hopsFrom(int branch) {
            int label = program.toldOf(branch);
            int from = addressOf(branch);
            if (!isLong(branch)) {
                return aimOf(branch) == NONE ? NONE : 0;
            }
            // each hop leads to another island, as each is nearer to the label
            for (int through = 0; through <= MOST_ISLANDS; through++) {
                if (goesStraight(from, label)) {
                    return through;
                }
                int next = islandFor(from, label);
                if (next == NONE) {
                    return NONE;
                }
                from = islands.addressOf(next);
            }
            return NONE;
        }

        // -- mending

        /** Mends the first thing that does not reach; false if there is none, or it cannot be mended. */
        private boolean mendsOne() {
            int astray = firstAstray(BRANCH, false);
            if (astray != NONE) {
                return lengthens(astray);
            }
            astray = firstAstray(LOAD, false);
            if (astray != NONE) {
                return bringsConstant(astray) || fails(AT_LOAD, astray);
            }
            astray = firstAstray(BRANCH, true);
            if (astray != NONE) {
                return bringsIsland(addressOf(astray), program.toldOf(astray)) || fails(AT_BRANCH, astray);
            }
            astray = firstIslandAstray();
            if (astray != NONE) {
                return bringsIsland(islands.addressOf(astray), islands.nameOf(astray)) || fails(AT_ISLAND, astray);
            }
            return false;
        }

        private int firstAstray(int kind, boolean asLong) {
            for (int item = 0; item < program.size(); item++) {
                if (program.kindOf(item) == kind && isLong(item) == asLong && aimOf(item) == NONE) {
                    return item;
                }
            }
            return NONE;
        }

        private int firstIslandAstray() {
            for (int island = 0; island < islands.size(); island++) {
                if (islandAimOf(island) == NONE) {
                    return island;
                }
            }
            return NONE;
        }

        private boolean fails(int where, int number) {
            failedAt = where;
            failedNumber = number;
            return false;
        }

        private boolean lengthens(int branch) {
            if (branch < 0 || branch >= longs.length) {
                return false;
            }
            longs[branch] = true;
            longBranches++;
            return true;
        }

        private boolean bringsConstant(int load) {
            int from = addressOf(load);
            int gap = NONE;
            for (int item = load + 1; item < program.size(); item++) {
                if (program.kindOf(item) == RETURN && isInLoadReach(from, nextConstantIn(item))) {
                    gap = item;
                }
            }
            return gap != NONE && constants.add(program.toldOf(load), gap);
        }

        private int nextConstantIn(int returnItem) {
            int end = constants.endOf(returnItem);
            return end + fillTo(UNIT, end);
        }

        private boolean bringsIsland(int from, int label) {
            int to = labelAddress(label);
            int gap = NONE;
            int least = far(from, to);
            for (int item = 0; item < program.size(); item++) {
                int address = islands.endOf(item);
                boolean leads = program.kindOf(item) == RETURN && far(address, from) <= reaches[LONG];
                if (leads && far(address, to) < least) {
                    gap = item;
                    least = far(address, to);
                }
            }
            return gap != NONE && islands.add(label, gap);
        }
    }
}
