import java.util.ArrayList;
import java.util.Comparator;
import java.util.List;
import java.util.Optional;
import java.util.TreeSet;

/** The document told a second time, without thrift, to compare FarReach with. */
final class Model {
    static final int NONE = -1, UNKNOWN = -1001, OUTSIDE = -1002, STATE = -1003, FULL = -1004;

    /** Anything that is laid: kinds 'n', 'l', 'b', ':', 'a', 'r' are items, 'I' islands, 'C' constants, '.' filling. */
    static final class Thing {
        final char kind;
        final int number;
        final Thing behind;
        int told;
        boolean isLong;
        int address;
        int size;

        Thing(char kind, int number, int told, Thing behind) {
            this.kind = kind;
            this.number = number;
            this.told = told;
            this.behind = behind;
        }
    }

    final StringBuilder page = new StringBuilder();
    final int[] reaches = {8, 32, 24};
    List<Thing> items = new ArrayList<>();
    List<Thing> islands = new ArrayList<>();
    List<Thing> constants = new ArrayList<>();
    int rounds, bytes, filled, failedAt, failedNumber = NONE, timesRead, timesAltered;

    // ---- texts

    int letter(int code) {
        if (code < 32 || code > 126) return OUTSIDE;
        if (page.length() == 50) return FULL;
        return page.append((char) code).length();
    }

    int blank() {
        int had = page.length();
        page.setLength(0);
        return had;
    }

    /** A text begins code if some text of whole items does that begins with it. */
    static boolean beginsCode(String text) {
        if (isItems(text)) return true;
        for (char last = 32; last < 127; last++) {
            if (isItems(text + last)) return true;
        }
        return false;
    }

    static boolean isItems(String text) {
        if (!text.matches("(n[1-9]|l[0-9]|b[A-H]|:[A-H]|a[1-3]|r){0,24}")) return false;
        for (char label = 'A'; label <= 'H'; label++) {
            String name = ":" + label;
            if (text.indexOf(name) != text.lastIndexOf(name)) return false;
        }
        return true;
    }

    int fault() {
        for (int place = 0; place < page.length(); place++) {
            if (!beginsCode(page.substring(0, place + 1))) return place;
        }
        return page.length();
    }

    int code() {
        String text = page.toString();
        if (text.isEmpty() || !isItems(text)) return STATE;
        for (char label = 'A'; label <= 'H'; label++) {
            if (text.contains("b" + label) && !text.contains(":" + label)) return STATE;
        }
        items = new ArrayList<>();
        for (int place = 0; place < text.length(); place++) {
            char kind = text.charAt(place);
            int told = 0;
            if (kind != 'r') {
                char second = text.charAt(++place);
                told = kind == 'a' ? (int) Math.pow(2, second - '0') : Character.isDigit(second) ? second - '0' : second - 'A';
            }
            items.add(new Thing(kind, items.size(), told, null));
        }
        page.setLength(0);
        timesRead++;
        place();
        return items.size();
    }

    // ---- what is altered

    int reach(int what, int v) {
        if (what < 0 || what > 2) return OUTSIDE;
        if (what == 0 ? v < 2 || v > 60 : v < 4 || v > 120) return OUTSIDE;
        int was = reaches[what];
        reaches[what] = v;
        timesAltered++;
        place();
        return was;
    }

    int grow(int item, int v) {
        if (item < 0 || item >= items.size()) return UNKNOWN;
        if (v < 1 || v > 40) return OUTSIDE;
        if (items.get(item).kind != 'n') return STATE;
        int had = items.get(item).told;
        items.get(item).told = v;
        timesAltered++;
        place();
        return had;
    }

    // ---- placing

    List<Thing> laid() {
        List<Thing> all = new ArrayList<>();
        for (Thing item : items) {
            all.add(item);
            if (item.kind != 'r') continue;
            for (Thing island : islands) if (island.behind == item) all.add(island);
            boolean first = true;
            for (Thing constant : constants) {
                if (constant.behind != item) continue;
                if (first) all.add(new Thing('.', NONE, 4, null));
                first = false;
                all.add(constant);
            }
        }
        int address = 0;
        filled = 0;
        for (Thing thing : all) {
            thing.address = address;
            switch (thing.kind) {
                case 'n' -> thing.size = thing.told;
                case 'l', 'r' -> thing.size = 2;
                case 'b' -> thing.size = thing.isLong ? 4 : 2;
                case ':' -> thing.size = 0;
                case 'I', 'C' -> thing.size = 4;
                default -> {
                    thing.size = 0;
                    while ((address + thing.size) % thing.told != 0) thing.size++;
                    filled += thing.size;
                }
            }
            address += thing.size;
        }
        bytes = address;
        return all;
    }

    int labelOf(Thing from) {
        return items.stream().filter(i -> i.kind == ':' && i.told == from.told).findFirst().get().address;
    }

    /** The thing to which one goes, or null. */
    Thing goes(Thing from) {
        if (from.kind == 'l') {
            return constants.stream()
                .filter(c -> c.told == from.told && c.address > from.address && c.address - from.address <= reaches[2])
                .min(Comparator.comparingInt(c -> c.address)).orElse(null);
        }
        if (from.kind != 'b' && from.kind != 'I') return null;
        Thing label = items.stream().filter(i -> i.kind == ':' && i.told == from.told).findFirst().get();
        int far = Math.abs(label.address - from.address);
        if (from.kind == 'b' && !from.isLong) return far <= reaches[0] ? label : null;
        if (far <= reaches[1]) return label;
        return islands.stream()
            .filter(i -> i.told == from.told)
            .filter(i -> Math.abs(i.address - from.address) <= reaches[1])
            .filter(i -> Math.abs(i.address - label.address) < far)
            .min(Comparator.<Thing>comparingInt(i -> Math.abs(i.address - label.address)).thenComparingInt(i -> i.address))
            .orElse(null);
    }

    void place() {
        islands = new ArrayList<>();
        constants = new ArrayList<>();
        rounds = 0;
        bytes = 0;
        filled = 0;
        failedAt = 0;
        failedNumber = NONE;
        for (Thing item : items) item.isLong = false;
        if (items.isEmpty()) return;
        do {
            rounds++;
            laid();
        } while (mend());
    }

    boolean mend() {
        Optional<Thing> astray = items.stream().filter(i -> i.kind == 'b' && !i.isLong && goes(i) == null).findFirst();
        if (astray.isPresent()) {
            astray.get().isLong = true;
            return true;
        }
        astray = items.stream().filter(i -> i.kind == 'l' && goes(i) == null).findFirst();
        if (astray.isPresent()) return mendLoad(astray.get()) || fail(1, astray.get());
        astray = items.stream().filter(i -> i.kind == 'b' && goes(i) == null).findFirst();
        if (astray.isPresent()) return mendFar(astray.get()) || fail(2, astray.get());
        astray = islands.stream().filter(i -> goes(i) == null).findFirst();
        if (astray.isPresent()) return mendFar(astray.get()) || fail(3, astray.get());
        return false;
    }

    boolean fail(int at, Thing thing) {
        failedAt = at;
        failedNumber = thing.number;
        return false;
    }

    /** Where one more would lie: a trial layout in which it is put there. */
    int trial(List<Thing> row, Thing more) {
        row.add(more);
        laid();
        int address = more.address;
        row.remove(row.size() - 1);
        laid();
        return address;
    }

    boolean mendLoad(Thing load) {
        Thing gap = null;
        for (Thing item : items) {
            if (item.kind != 'r' || item.number < load.number) continue;
            int address = trial(constants, new Thing('C', NONE, load.told, item));
            if (address - load.address <= reaches[2]) gap = item;
        }
        if (gap == null || constants.size() == 16) return false;
        constants.add(new Thing('C', constants.size(), load.told, gap));
        return true;
    }

    boolean mendFar(Thing from) {
        TreeSet<int[]> good = new TreeSet<>(Comparator.<int[]>comparingInt(g -> g[0]).thenComparingInt(g -> g[1]));
        for (Thing item : items) {
            if (item.kind != 'r') continue;
            int address = trial(islands, new Thing('I', NONE, from.told, item));
            int left = Math.abs(address - labelOf(from));
            if (Math.abs(address - from.address) <= reaches[1] && left < Math.abs(from.address - labelOf(from))) {
                good.add(new int[] {left, item.number});
            }
        }
        if (good.isEmpty() || islands.size() == 12) return false;
        islands.add(new Thing('I', islands.size(), from.told, items.get(good.first()[1])));
        return true;
    }

    // ---- what is placed

    static int addressOf(Thing thing) {
        return thing == null ? NONE : thing.address;
    }

    int item(int item, int what) {
        if (item < 0 || item >= items.size()) return UNKNOWN;
        Thing thing = items.get(item);
        return switch (what) {
            case 0 -> "nlb:ar".indexOf(thing.kind);
            case 1 -> thing.told;
            case 2 -> thing.address;
            case 3 -> thing.size;
            case 4 -> thing.isLong ? 1 : 0;
            case 5 -> addressOf(goes(thing));
            default -> OUTSIDE;
        };
    }

    int island(int island, int what) {
        if (island < 0 || island >= islands.size()) return UNKNOWN;
        Thing thing = islands.get(island);
        return switch (what) {
            case 0 -> thing.told;
            case 1 -> thing.behind.number;
            case 2 -> thing.address;
            case 3 -> addressOf(goes(thing));
            default -> OUTSIDE;
        };
    }

    int constant(int constant, int what) {
        if (constant < 0 || constant >= constants.size()) return UNKNOWN;
        Thing thing = constants.get(constant);
        return switch (what) {
            case 0 -> thing.told;
            case 1 -> thing.behind.number;
            case 2 -> thing.address;
            case 3 -> (int) items.stream().filter(i -> i.kind == 'l' && goes(i) == thing).count();
            default -> OUTSIDE;
        };
    }

    int hops(int item) {
        if (item < 0 || item >= items.size()) return UNKNOWN;
        if (items.get(item).kind != 'b') return STATE;
        Thing at = goes(items.get(item));
        int hops = 0;
        while (at != null && at.kind == 'I') {
            hops++;
            at = goes(at);
        }
        return at == null ? NONE : hops;
    }

    int placed(int what) {
        return switch (what) {
            case 0 -> failedAt == 0 ? 1 : 0;
            case 1 -> rounds;
            case 2 -> bytes;
            case 3 -> filled;
            case 4 -> failedAt;
            case 5 -> failedNumber;
            case 6 -> islands.size();
            case 7 -> constants.size();
            case 8 -> (int) items.stream().filter(i -> i.isLong).count();
            default -> OUTSIDE;
        };
    }

    // ---- what is told of all

    int count(int what) {
        return switch (what) {
            case 0 -> items.size();
            case 1 -> page.length();
            case 2 -> (int) items.stream().filter(i -> i.kind == 'r').count();
            case 3, 4, 5 -> reaches[what - 3];
            case 6 -> timesRead;
            case 7 -> timesAltered;
            default -> OUTSIDE;
        };
    }

    long digest() {
        List<Integer> told = new ArrayList<>();
        for (int i = 0; i < items.size(); i++) for (int what = 0; what <= 5; what++) told.add(item(i, what));
        for (int i = 0; i < islands.size(); i++) for (int what = 0; what <= 3; what++) told.add(island(i, what));
        for (int i = 0; i < constants.size(); i++) for (int what = 0; what <= 3; what++) told.add(constant(i, what));
        for (int what = 0; what <= 8; what++) told.add(placed(what));
        page.chars().forEach(told::add);
        for (int what = 0; what <= 7; what++) told.add(count(what));
        long h = 1637;
        for (int number : told) h = 31 * h + number;
        return h;
    }
}
