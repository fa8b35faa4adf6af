import java.util.ArrayList;
import java.util.HashMap;
import java.util.HashSet;
import java.util.List;
import java.util.Map;
import java.util.Set;

/**
 * What the document tells, in the plainest way and with no thought for speed: the random runs
 * compare the class with it.
 */
final class Model {
    private static final int NONE = -1, UNKNOWN = -101, OUTSIDE = -102, STATE = -103, FULL = -104;
    private static final Set<String> LAW_PREFIXES = new HashSet<>();
    private static final Set<String> LAWS = new HashSet<>();
    private static final int[][] WAY = {{-1, 0}, {0, 1}, {1, 0}, {0, -1}};

    static {
        for (char side : "we".toCharArray()) {
            for (char act : "abcdef".toCharArray()) {
                for (int from = 0; from < 24; from++) {
                    for (int to = 0; to < 24; to++) {
                        for (String end : new String[] {"", "h", "n", "f", "o"}) {
                            LAWS.add("" + side + act + from + "-" + to + end);
                        }
                    }
                }
            }
        }
        for (String law : LAWS) {
            for (int i = 0; i <= law.length(); i++) {
                LAW_PREFIXES.add(law.substring(0, i));
            }
        }
    }

    private String page = "";
    private char[][] house = new char[0][];
    private int[] lines = new int[0];
    private final List<String> laws = new ArrayList<>();
    private List<int[]> events = new ArrayList<>();
    private List<int[]> things = new ArrayList<>();
    private List<int[]> habits = new ArrayList<>();
    private List<int[]> judgments = new ArrayList<>();
    private List<List<int[]>> image = null;
    private int houses = 0;
    private int moved = 0;
    private final Map<Integer, Boolean> fine = new HashMap<>();

    // ---- texts

    int letters(long w) {
        StringBuilder text = new StringBuilder();
        boolean end = false;
        for (int i = 0; i < 8; i++) {
            long code = (w >> (8 * i)) & 0xff;
            if (code > 126 || end && code != 0) {
                return OUTSIDE;
            }
            end = end || code == 0;
            if (code != 0) {
                text.append((char) code);
            }
        }
        if (page.length() + text.length() > 40) {
            return FULL;
        }
        page += text;
        return page.length();
    }

    int blank() {
        int had = page.length();
        page = "";
        return had;
    }

    private static boolean mayBecomeHouse(String text) {
        for (int width = 2; width <= 6; width++) {
            String[] rows = text.split("/", -1);
            boolean may = rows.length <= 4;
            for (int i = 0; i < rows.length; i++) {
                int cells = rows[i].replace("|", "").length();
                int lines = rows[i].length() - cells;
                may &= rows[i].matches("[.#d|]*") && cells <= width && lines <= 1;
                if (i < rows.length - 1) {
                    may &= cells == width && lines == 1;
                }
            }
            if (may) {
                return true;
            }
        }
        return false;
    }

    private static boolean isHouse(String text) {
        // A HOUSE of fewer than four rows is one that may go on with a further row.
        String row = text.split("/", -1)[0];
        boolean full = text.split("/", -1).length == 4;
        String more = text + "/" + row;
        if (full) {
            int cut = text.lastIndexOf('/');
            more = row + "/" + text.substring(cut + 1) + "/" + row;
        }
        return text.contains("/") && mayBecomeHouse(text) && mayBecomeHouse(more);
    }

    int fault(int sort) {
        if (sort != 0 && sort != 1) {
            return OUTSIDE;
        }
        for (int i = 1; i <= page.length(); i++) {
            String ahead = page.substring(0, i);
            if (sort == 0 ? !mayBecomeHouse(ahead) : !LAW_PREFIXES.contains(ahead)) {
                return i - 1;
            }
        }
        return page.length();
    }

    int house() {
        if (!isHouse(page)) {
            return STATE;
        }
        String[] rows = page.split("/");
        house = new char[rows.length][];
        lines = new int[rows.length];
        for (int i = 0; i < rows.length; i++) {
            lines[i] = rows[i].indexOf('|');
            house[i] = rows[i].replace("|", "").toCharArray();
        }
        page = "";
        events = new ArrayList<>();
        things = new ArrayList<>();
        habits = new ArrayList<>();
        judgments = new ArrayList<>();
        image = null;
        houses++;
        fine.clear();
        return cells();
    }

    int law() {
        if (!LAWS.contains(page)) {
            return STATE;
        }
        if (laws.size() == 8) {
            return FULL;
        }
        laws.add(page);
        page = "";
        fine.clear();
        return laws.size() - 1;
    }

    int lawTold(int law, int what) {
        if (law < 0 || law >= laws.size()) {
            return UNKNOWN;
        }
        String text = laws.get(law);
        String[] hours = text.substring(2).split("[-hnfo]");
        switch (what) {
            case 0: return "we".indexOf(text.charAt(0));
            case 1: return "abcdef".indexOf(text.charAt(1));
            case 2: return Integer.parseInt(hours[0]);
            case 3: return Integer.parseInt(hours[1]);
            case 4: return Math.max(0, " hnfo".indexOf(text.charAt(text.length() - 1)));
            default: return OUTSIDE;
        }
    }

    int asLaw(int law, int kind) {
        if (law < 0 || law >= laws.size()) {
            return UNKNOWN;
        }
        String[] kinds = {"0", "01", "02", "013", "04"};
        if (kind < 0 || kind > 4) {
            return OUTSIDE;
        }
        return kinds[lawTold(law, 4)].contains("" + kind) ? law : NONE;
    }

    // ---- the house

    private int width() {
        return house.length == 0 ? 1 : house[0].length;
    }

    private int cells() {
        return house.length == 0 ? 0 : house.length * width();
    }

    private boolean there(int cell) {
        return cell >= 0 && cell < cells();
    }

    private char at(int cell) {
        return there(cell) ? house[cell / width()][cell % width()] : '#';
    }

    private int side(int cell, int by) {
        int line = lines[cell / width()] + by;
        line = Math.max(0, Math.min(width(), line));
        return cell % width() < line ? 0 : 1;
    }

    private int beside(int cell, int way) {
        int row = cell / width() + WAY[way][0];
        int column = cell % width() + WAY[way][1];
        boolean is = row >= 0 && row < house.length && column >= 0 && column < width();
        return is ? row * width() + column : NONE;
    }

    private int ahead(int cell, int way) {
        int next = beside(cell, way);
        return next == NONE || at(next) == '#' ? cell : next;
    }

    private static boolean fits(int number, int bound) {
        return number >= 0 && number < bound;
    }

    /** The cheapest way of at most k steps, for k from 0 on. */
    private int way(int from, int to, int toll, boolean withThings) {
        int[] cost = new int[cells()];
        java.util.Arrays.fill(cost, 99999);
        cost[from] = 0;
        for (int k = 0; k < cells(); k++) {
            int[] more = cost.clone();
            for (int cell = 0; cell < cells(); cell++) {
                if (cell != from && withThings && thingAt(cell) != NONE) {
                    continue;
                }
                for (int way = 0; way < 4; way++) {
                    int next = beside(cell, way);
                    if (next != NONE && at(next) != '#') {
                        int step = 1 + toll * Math.abs(side(cell, 0) - side(next, 0));
                        more[next] = Math.min(more[next], cost[cell] + step);
                    }
                }
            }
            cost = more;
        }
        return cost[to] >= 99999 ? NONE : cost[to];
    }

    private int door(int cell) {
        int best = NONE;
        for (int door = cells() - 1; door >= 0; door--) {
            if (at(cell) != '#' && at(door) == 'd' && way(cell, door, 0, false) != NONE) {
                if (best == NONE || way(cell, door, 0, false) <= way(cell, best, 0, false)) {
                    best = door;
                }
            }
        }
        return best;
    }

    int cell(int cell, int what) {
        if (!there(cell)) {
            return UNKNOWN;
        }
        switch (what) {
            case 0: return ".#d".indexOf(at(cell));
            case 1: return side(cell, 0);
            case 2: return thingAt(cell);
            case 3: return door(cell);
            default: return OUTSIDE;
        }
    }

    // ---- acts

    int part(int posture, int cell, int way, int part) {
        if (at(cell) == '#') {
            return UNKNOWN;
        }
        if (!fits(posture, 3) || !fits(way, 4) || !fits(part, 4)) {
            return OUTSIDE;
        }
        String[] where = {"oaoo", "ooaa", "oooa"};
        return where[posture].charAt(part) == 'a' ? ahead(cell, way) : cell;
    }

    private int bits(int act, int hour, int posture, int cell, int way, int by) {
        int bits = 0;
        for (int law = 0; law < laws.size(); law++) {
            boolean holds = lawTold(law, 2) == lawTold(law, 3);
            for (int h = lawTold(law, 2); h != lawTold(law, 3); h = (h + 1) % 24) {
                holds |= h == hour;
            }
            List<Integer> parts = new ArrayList<>();
            int kind = lawTold(law, 4);
            if (kind == 1 || kind == 3) {
                parts.add(part(posture, cell, way, 0));
            }
            if (kind == 2) {
                parts.add(part(posture, cell, way, 1));
            }
            if (kind == 3) {
                parts.add(part(posture, cell, way, 2));
                parts.add(part(posture, cell, way, 3));
            }
            if (kind == 4) {
                parts.add(door(cell) == NONE ? cell : door(cell));
            }
            boolean counts = holds && lawTold(law, 1) == act;
            for (int part : parts) {
                counts &= side(part, by) == lawTold(law, 0);
            }
            bits |= counts ? 1 << law : 0;
        }
        return bits;
    }

    int against(int act, int hour, int posture, int cell, int way) {
        if (at(cell) == '#') {
            return UNKNOWN;
        }
        if (!fits(act, 6) || !fits(hour, 24) || !fits(posture, 3) || !fits(way, 4)) {
            return OUTSIDE;
        }
        return bits(act, hour, posture, cell, way, 0);
    }

    int event(int hour, int act, int posture, int cell, int way) {
        int against = against(act, hour, posture, cell, way);
        if (against < 0) {
            return against;
        }
        if (events.size() == 12) {
            return FULL;
        }
        events.add(new int[] {hour, act, posture, cell, way});
        return events.size() - 1;
    }

    private int eventBits(int[] e, int by) {
        return bits(e[1], e[0], e[2], e[3], e[4], by);
    }

    int first(int what) {
        if (what != 0 && what != 1) {
            return OUTSIDE;
        }
        for (int hour = 0; hour < 24; hour++) {
            for (int i = 0; i < events.size(); i++) {
                int bits = eventBits(events.get(i), 0);
                if (events.get(i)[0] == hour && bits != 0) {
                    return what == 0 ? i : Integer.numberOfTrailingZeros(bits);
                }
            }
        }
        return NONE;
    }

    int map(int act, int hour, int posture, int what) {
        if (cells() == 0) {
            return STATE;
        }
        if (!fits(act, 6) || !fits(hour, 24) || !fits(posture, 3) || !fits(what, 3)) {
            return OUTSIDE;
        }
        int[] found = new int[3];
        for (int cell = 0; cell < cells(); cell++) {
            int ways = 0;
            for (int way = 0; way < 4 && at(cell) != '#'; way++) {
                ways += bits(act, hour, posture, cell, way, 0) != 0 ? 1 : 0;
            }
            if (at(cell) != '#') {
                found[ways == 0 ? 0 : ways == 4 ? 2 : 1]++;
            }
        }
        return found[what];
    }

    // ---- things

    private List<Integer> cellsOf(int[] thing) {
        List<Integer> cells = new ArrayList<>();
        cells.add(thing[1]);
        if (thing[0] == 1) {
            cells.add(beside(thing[1], thing[2]));
        }
        return cells;
    }

    private int thingAt(int cell) {
        for (int i = 0; i < things.size(); i++) {
            if (cellsOf(things.get(i)).contains(cell)) {
                return i;
            }
        }
        return NONE;
    }

    /** Whether all things are on FLOOR, as they are told, and no two in one cell. */
    private boolean stand(List<int[]> all) {
        Set<Integer> had = new HashSet<>();
        for (int[] thing : all) {
            for (int cell : cellsOf(thing)) {
                if (at(cell) != '.' || !had.add(cell)) {
                    return false;
                }
            }
            if (thing[0] != 1 && thing[2] != 0) {
                return false;
            }
        }
        return true;
    }

    private List<int[]> withPlace(List<int[]> all, int thing, int place) {
        List<int[]> more = new ArrayList<>(all);
        more.set(thing, new int[] {all.get(thing)[0], place / 4, place % 4});
        return more;
    }

    int thing(int kind, int cell, int way) {
        if (!fits(kind, 4)) {
            return OUTSIDE;
        }
        if (at(cell) != '.') {
            return UNKNOWN;
        }
        if (!fits(way, kind == 1 ? 4 : 1)) {
            return OUTSIDE;
        }
        List<int[]> more = new ArrayList<>(things);
        more.add(new int[] {kind, cell, way});
        if (!stand(more)) {
            return STATE;
        }
        if (things.size() == 3) {
            return FULL;
        }
        things = more;
        return things.size() - 1;
    }

    int asThing(int thing, int kind) {
        if (!fits(thing, things.size())) {
            return UNKNOWN;
        }
        if (!fits(kind, 4)) {
            return OUTSIDE;
        }
        String[] kinds = {"0", "01", "02", "023"};
        return kinds[things.get(thing)[0]].contains("" + kind) ? thing : NONE;
    }

    int about(int thing, int what) {
        if (!fits(thing, things.size())) {
            return UNKNOWN;
        }
        if (!fits(what, 4)) {
            return OUTSIDE;
        }
        List<Integer> cells = cellsOf(things.get(thing));
        return what < 3 ? things.get(thing)[what] : cells.get(cells.size() - 1);
    }

    int move(int thing, int cell, int way) {
        if (!fits(thing, things.size()) || at(cell) != '.') {
            return UNKNOWN;
        }
        if (!fits(way, things.get(thing)[0] == 1 ? 4 : 1)) {
            return OUTSIDE;
        }
        List<int[]> more = withPlace(things, thing, 4 * cell + way);
        if (!stand(more)) {
            return STATE;
        }
        int before = 4 * things.get(thing)[1] + things.get(thing)[2];
        things = more;
        return before;
    }

    int habit(int act, int hour) {
        if (!fits(act, 6) || !fits(hour, 24)) {
            return OUTSIDE;
        }
        if (habits.size() == 6) {
            return FULL;
        }
        habits.add(new int[] {act, hour});
        return habits.size() - 1;
    }

    private boolean fine(int act, int hour, int posture, int cell, int way) {
        int key = (((act * 24 + hour) * 3 + posture) * 24 + cell) * 4 + way;
        return fine.computeIfAbsent(key, k -> bits(act, hour, posture, cell, way, 0) == 0);
    }

    private boolean isKept(int[] habit, List<int[]> all) {
        int act = habit[0];
        Set<Integer> taken = new HashSet<>();
        for (int[] thing : all) {
            taken.addAll(cellsOf(thing));
        }
        if (act == 0) {
            for (int[] thing : all) {
                if (thing[0] == 1 && fine(0, habit[1], 1, thing[1], thing[2])) {
                    return true;
                }
            }
            return false;
        }
        for (int cell = 0; cell < cells(); cell++) {
            for (int way = 0; way < 4; way++) {
                if (at(cell) == '#' || taken.contains(cell)) {
                    continue;
                }
                boolean is = act >= 3;
                for (int[] thing : all) {
                    boolean wanted = thing[0] == 3 || thing[0] == 2 && act == 1;
                    is |= act < 3 && wanted && cellsOf(thing).contains(beside(cell, way));
                }
                if (is && fine(act, habit[1], act == 4 ? 2 : 0, cell, way)) {
                    return true;
                }
            }
        }
        return false;
    }

    private boolean allKept(List<int[]> all) {
        for (int[] habit : habits) {
            if (!isKept(habit, all)) {
                return false;
            }
        }
        return true;
    }

    int kept() {
        int bits = 0;
        for (int i = 0; i < habits.size(); i++) {
            bits |= isKept(habits.get(i), things) ? 1 << i : 0;
        }
        return bits;
    }

    private int place(int thing) {
        return 4 * things.get(thing)[1] + things.get(thing)[2];
    }

    private int[] searched() {
        if (allKept(things)) {
            return new int[] {0, NONE, NONE, NONE, NONE};
        }
        for (int i = 0; i < things.size(); i++) {
            for (int p = 0; p < 4 * cells(); p++) {
                List<int[]> one = withPlace(things, i, p);
                if (p != place(i) && stand(one) && allKept(one)) {
                    return new int[] {1, i, p, NONE, NONE};
                }
            }
        }
        for (int i = 0; i < things.size(); i++) {
            for (int p = 0; p < 4 * cells(); p++) {
                for (int j = i + 1; j < things.size() && p != place(i); j++) {
                    for (int q = 0; q < 4 * cells(); q++) {
                        List<int[]> two = withPlace(withPlace(things, i, p), j, q);
                        if (q != place(j) && stand(two) && allKept(two)) {
                            return new int[] {2, i, p, j, q};
                        }
                    }
                }
            }
        }
        return new int[] {NONE, NONE, NONE, NONE, NONE};
    }

    int moves(int what) {
        if (cells() == 0) {
            return STATE;
        }
        if (!fits(what, 5)) {
            return OUTSIDE;
        }
        if (moved == 12) {
            return STATE;
        }
        moved++;
        return searched()[what];
    }

    // ---- ways, whose, duty, lines

    int steps(int from, int to) {
        return at(from) == '#' || at(to) == '#' ? UNKNOWN : way(from, to, 0, true);
    }

    int cheapest(int from, int to, int toll) {
        if (at(from) == '#' || at(to) == '#') {
            return UNKNOWN;
        }
        return fits(toll, 10) ? way(from, to, toll, true) : OUTSIDE;
    }

    int whose(int thing, int rule) {
        if (!fits(thing, things.size())) {
            return UNKNOWN;
        }
        int own = side(about(thing, 1), 0);
        int last = side(about(thing, 3), 0);
        int door = door(about(thing, 1));
        switch (rule) {
            case 0: return own;
            case 1: return last;
            case 2: return door == NONE ? own : side(door, 0);
            case 3: return own == last ? own : NONE;
            default: return OUTSIDE;
        }
    }

    int duty(int value, int free, int tenths, int walk, int what) {
        if (!fits(value, 1000) || !fits(free, 100) || !fits(tenths, 11) || !fits(walk, 100)
                || !fits(what, 2)) {
            return OUTSIDE;
        }
        int best = 0;
        int least = 1 << 30;
        for (int walks = 20; walks >= 1; walks--) {
            int above = value > walks * free ? value - walks * free : 0;
            int cost = walk * walks + (int) Math.ceil(tenths * above / 10.0);
            if (cost <= least) {
                least = cost;
                best = walks;
            }
        }
        return what == 0 ? best : least;
    }

    int drawn(int by) {
        if (cells() == 0) {
            return STATE;
        }
        if (!fits(by + 3, 7)) {
            return OUTSIDE;
        }
        int bits = 0;
        for (int i = 0; i < events.size(); i++) {
            bits |= eventBits(events.get(i), by) != 0 ? 1 << i : 0;
        }
        return bits;
    }

    int judgment(int cell, int side) {
        if (!there(cell)) {
            return UNKNOWN;
        }
        if (!fits(side, 2)) {
            return OUTSIDE;
        }
        if (judgments.size() == 10) {
            return FULL;
        }
        judgments.add(new int[] {cell, side});
        return judgments.size();
    }

    int fits() {
        if (cells() == 0) {
            return STATE;
        }
        int bits = 127;
        for (int by = -3; by <= 3; by++) {
            for (int[] judgment : judgments) {
                if (side(judgment[0], by) != judgment[1]) {
                    bits &= ~(1 << (by + 3));
                }
            }
        }
        return bits;
    }

    // ---- all

    int image() {
        if (cells() == 0) {
            return STATE;
        }
        image = List.of(new ArrayList<>(things), new ArrayList<>(events),
                new ArrayList<>(habits), new ArrayList<>(judgments));
        return things.size();
    }

    int restore() {
        if (image == null) {
            return STATE;
        }
        things = new ArrayList<>(image.get(0));
        events = new ArrayList<>(image.get(1));
        habits = new ArrayList<>(image.get(2));
        judgments = new ArrayList<>(image.get(3));
        return things.size();
    }

    int count(int what) {
        int[] counts = {cells(), laws.size(), events.size(), things.size(), habits.size(),
            judgments.size(), page.length(), houses, moved};
        return fits(what, 9) ? counts[what] : OUTSIDE;
    }

    long digest() {
        List<Long> all = new ArrayList<>();
        for (int cell = 0; cell < cells(); cell++) {
            for (int what = 0; what < 4; what++) {
                all.add((long) cell(cell, what));
            }
        }
        for (int law = 0; law < laws.size(); law++) {
            for (int what = 0; what < 5; what++) {
                all.add((long) lawTold(law, what));
            }
        }
        for (int[] event : events) {
            for (int number : event) {
                all.add((long) number);
            }
            all.add((long) eventBits(event, 0));
        }
        for (int thing = 0; thing < things.size(); thing++) {
            for (int what = 0; what < 4; what++) {
                all.add((long) about(thing, what));
            }
        }
        for (int[] habit : habits) {
            all.add((long) habit[0]);
            all.add((long) habit[1]);
        }
        all.add((long) kept());
        for (int[] judgment : judgments) {
            all.add((long) judgment[0]);
            all.add((long) judgment[1]);
        }
        if (cells() > 0) {
            all.add((long) fits());
        }
        for (char letter : page.toCharArray()) {
            all.add((long) letter);
        }
        for (int what = 0; what < 9; what++) {
            all.add((long) count(what));
        }
        long h = 521;
        for (long number : all) {
            h = 31 * h + number;
        }
        return h;
    }
}
