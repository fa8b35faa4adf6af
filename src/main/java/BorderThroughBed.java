/** A house through each row of which a line goes, with laws of both its sides. */
public final class BorderThroughBed {
    public static final int NONE = -1, UNKNOWN = -101, OUTSIDE = -102, STATE = -103, FULL = -104;

    private static final int MOST_ROWS = 4, LEAST_ROWS = 2, MOST_COLUMNS = 6, LEAST_COLUMNS = 2;
    private static final int MOST_CELLS = 24, WAYS = 4, PLACES = 96;
    private static final int FLOOR = 0, WALL = 1, DOOR = 2;
    private static final int SIDES = 2, ACTS = 6, HOURS = 24, POSTURES = 3, PARTS = 4;
    private static final int STANDS = 0, LIES = 1, STRIDES = 2;
    private static final int HANDS = 1, ONE_FOOT = 2, OTHER_FOOT = 3;
    private static final int BED = 1, TABLE = 2, BENCH = 3, THING_KINDS = 4;
    private static final int MOST_LAWS = 8, MOST_EVENTS = 12, MOST_THINGS = 3, MOST_HABITS = 6;
    private static final int MOST_JUDGMENTS = 10, MOST_MOVES = 12, MOST_WALKS = 20, FURTHEST = 3;

    private final Page page = new Page();
    private final HouseText houseText = new HouseText();
    private final LawText lawText = new LawText();
    private final House house = new House();
    private final Laws laws = new Laws();
    private final Day now = new Day();
    private final Day imageDay = new Day();
    private final Keeping keeping = new Keeping();
    private final Mover mover = new Mover();
    private boolean imageIsKept;
    private int housesRead;
    private int movesDone;

    public BorderThroughBed() {
    }

    // ---- texts

    public int letters(long w) {
        int more = Page.lettersIn(w);
        if (more < 0) {
            return OUTSIDE;
        }
        if (page.size() + more > Page.MOST) {
            return FULL;
        }
        page.append(w, more);
        return page.size();
    }

    public int blank() {
        int had = page.size();
        page.clear();
        return had;
    }

    public int fault(int sort) {
        if (!below(sort, 2)) {
            return OUTSIDE;
        }
        return sort == 0 ? houseText.taken(page) : lawText.taken(page);
    }

    public int house() {
        if (!houseText.isOn(page)) {
            return STATE;
        }
        house.read(page);
        page.clear();
        now.clear();
        imageIsKept = false;
        housesRead++;
        return house.cells();
    }

    public int law() {
        if (!lawText.isOn(page)) {
            return STATE;
        }
        if (laws.isFull()) {
            return FULL;
        }
        page.clear();
        return laws.add(lawText);
    }

    public int lawTold(int law, int what) {
        if (!below(law, laws.size())) {
            return UNKNOWN;
        }
        return below(what, LawText.NUMBERS) ? laws.told(law, what) : OUTSIDE;
    }

    public int asLaw(int law, int kind) {
        if (!below(law, laws.size())) {
            return UNKNOWN;
        }
        if (!below(kind, Laws.KINDS)) {
            return OUTSIDE;
        }
        return Laws.isOfKind(laws.told(law, LawText.KIND), kind) ? law : NONE;
    }

    public int cell(int cell, int what) {
        if (!house.has(cell)) {
            return UNKNOWN;
        }
        return below(what, 4) ? cellTold(cell, what) : OUTSIDE;
    }

    // ---- acts

    public int part(int posture, int cell, int way, int part) {
        if (!house.isOpen(cell)) {
            return UNKNOWN;
        }
        if (!below(posture, POSTURES) || !below(way, WAYS) || !below(part, PARTS)) {
            return OUTSIDE;
        }
        return house.partAt(posture, 4 * cell + way, part);
    }

    public int against(int act, int hour, int posture, int cell, int way) {
        if (!house.isOpen(cell)) {
            return UNKNOWN;
        }
        if (!isDoing(act, hour, posture) || !below(way, WAYS)) {
            return OUTSIDE;
        }
        return laws.broken(house, act, hour, posture, 4 * cell + way, 0);
    }

    public int event(int hour, int act, int posture, int cell, int way) {
        if (!house.isOpen(cell)) {
            return UNKNOWN;
        }
        if (!isDoing(act, hour, posture) || !below(way, WAYS)) {
            return OUTSIDE;
        }
        if (now.events.isFull()) {
            return FULL;
        }
        return now.events.add(hour, act, posture, cell, way);
    }

    public int first(int what) {
        if (!below(what, 2)) {
            return OUTSIDE;
        }
        int event = firstAgainst();
        if (event == NONE || what == 0) {
            return event;
        }
        return leastBit(eventBroken(event, 0));
    }

    public int map(int act, int hour, int posture, int what) {
        if (!house.isThere()) {
            return STATE;
        }
        if (!isDoing(act, hour, posture) || !below(what, 3)) {
            return OUTSIDE;
        }
        int found = 0;
        for (int cell = 0; cell < house.cells(); cell++) {
            if (house.isOpen(cell) && mapOf(act, hour, posture, cell) == what) {
                found++;
            }
        }
        return found;
    }

    // ---- things, habits

    public int thing(int kind, int cell, int way) {
        if (!below(kind, THING_KINDS)) {
            return OUTSIDE;
        }
        if (!house.isFloor(cell)) {
            return UNKNOWN;
        }
        if (!below(way, waysOf(kind))) {
            return OUTSIDE;
        }
        if (!isRoom(kind, 4 * cell + way, NONE)) {
            return STATE;
        }
        if (now.things.isFull()) {
            return FULL;
        }
        return now.things.add(kind, cell, way, 0, 0);
    }

    public int asThing(int thing, int kind) {
        if (!below(thing, now.things.size())) {
            return UNKNOWN;
        }
        if (!below(kind, THING_KINDS)) {
            return OUTSIDE;
        }
        return Day.isOfKind(now.kindOf(thing), kind) ? thing : NONE;
    }

    public int about(int thing, int what) {
        if (!below(thing, now.things.size())) {
            return UNKNOWN;
        }
        return below(what, 4) ? thingTold(thing, what) : OUTSIDE;
    }

    public int move(int thing, int cell, int way) {
        if (!below(thing, now.things.size()) || !house.isFloor(cell)) {
            return UNKNOWN;
        }
        if (!below(way, waysOf(now.kindOf(thing)))) {
            return OUTSIDE;
        }
        if (!isRoom(now.kindOf(thing), 4 * cell + way, thing)) {
            return STATE;
        }
        int before = now.placeOf(thing);
        now.setPlace(thing, cell, way);
        return before;
    }

    public int habit(int act, int hour) {
        if (!below(act, ACTS) || !below(hour, HOURS)) {
            return OUTSIDE;
        }
        if (now.habits.isFull()) {
            return FULL;
        }
        return now.habits.add(act, hour, 0, 0, 0);
    }

    public int kept() {
        keeping.learn(house, laws, now);
        mover.begin(house, now);
        int bits = 0;
        for (int habit = 0; habit < now.habits.size(); habit++) {
            if (mover.isKept(keeping, habit)) {
                bits |= 1 << habit;
            }
        }
        return bits;
    }

    public int moves(int what) {
        if (!house.isThere()) {
            return STATE;
        }
        if (!below(what, Mover.NUMBERS)) {
            return OUTSIDE;
        }
        if (movesDone >= MOST_MOVES) {
            return STATE;
        }
        movesDone++;
        keeping.learn(house, laws, now);
        mover.begin(house, now);
        if (!mover.isDoneByNone(keeping) && !keeping.isHopeless()
                && !mover.isDoneByOne(house, keeping)) {
            mover.searchTwo(house, keeping);
        }
        return mover.told(what);
    }

    // ---- ways, whose, duty, lines

    public int steps(int from, int to) {
        if (!house.isOpen(from) || !house.isOpen(to)) {
            return UNKNOWN;
        }
        return house.cost(from, to, 0, now.takenBut(house, NONE));
    }

    public int cheapest(int from, int to, int toll) {
        if (!house.isOpen(from) || !house.isOpen(to)) {
            return UNKNOWN;
        }
        if (!below(toll, 10)) {
            return OUTSIDE;
        }
        return house.cost(from, to, toll, now.takenBut(house, NONE));
    }

    public int whose(int thing, int rule) {
        if (!below(thing, now.things.size())) {
            return UNKNOWN;
        }
        if (!below(rule, 4)) {
            return OUTSIDE;
        }
        int own = house.sideOf(now.cellOf(thing), 0);
        int last = house.sideOf(now.lastCellOf(house, thing), 0);
        if (rule == 1) {
            return last;
        }
        if (rule == 2) {
            return house.sideOf(house.doorOrOwn(now.cellOf(thing)), 0);
        }
        return rule == 3 && own != last ? NONE : own;
    }

    public int duty(int value, int free, int tenths, int walk, int what) {
        if (!below(value, 1000) || !below(free, 100) || !below(tenths, 11)
                || !below(walk, 100) || !below(what, 2)) {
            return OUTSIDE;
        }
        int walks = 1;
        int least = dutyOf(1, value, free, tenths, walk);
        for (int more = 2; more <= MOST_WALKS; more++) {
            int cost = dutyOf(more, value, free, tenths, walk);
            if (cost < least) {
                least = cost;
                walks = more;
            }
        }
        return what == 0 ? walks : least;
    }

    public int drawn(int by) {
        if (!house.isThere()) {
            return STATE;
        }
        if (by < -FURTHEST || by > FURTHEST) {
            return OUTSIDE;
        }
        int bits = 0;
        for (int event = 0; event < now.events.size(); event++) {
            if (eventBroken(event, by) != 0) {
                bits |= 1 << event;
            }
        }
        return bits;
    }

    public int judgment(int cell, int side) {
        if (!house.has(cell)) {
            return UNKNOWN;
        }
        if (!below(side, SIDES)) {
            return OUTSIDE;
        }
        if (now.judgments.isFull()) {
            return FULL;
        }
        now.judgments.add(cell, side, 0, 0, 0);
        return now.judgments.size();
    }

    public int fits() {
        return house.isThere() ? fitting() : STATE;
    }

    // ---- what is told of all

    public int image() {
        if (!house.isThere()) {
            return STATE;
        }
        imageDay.copy(now);
        imageIsKept = true;
        return now.things.size();
    }

    public int restore() {
        if (!imageIsKept) {
            return STATE;
        }
        now.copy(imageDay);
        return now.things.size();
    }

    public int count(int what) {
        switch (what) {
            case 0: return house.cells();
            case 1: return laws.size();
            case 2: return now.events.size();
            case 3: return now.things.size();
            case 4: return now.habits.size();
            case 5: return now.judgments.size();
            case 6: return page.size();
            case 7: return housesRead;
            case 8: return movesDone;
            default: return OUTSIDE;
        }
    }

    public long digest() {
        long h = digestOfCells(521L);
        h = digestOfLaws(h);
        h = digestOfEvents(h);
        h = digestOfThings(h);
        h = digestOfPairs(h, now.habits);
        h = 31 * h + kept();
        h = digestOfPairs(h, now.judgments);
        if (house.isThere()) {
            h = 31 * h + fitting();
        }
        for (int i = 0; i < page.size(); i++) {
            h = 31 * h + page.codeAt(i);
        }
        for (int what = 0; what <= 8; what++) {
            h = 31 * h + count(what);
        }
        return h;
    }

    // ---- parts of the calls

    private static boolean below(int number, int bound) {
        return number >= 0 && number < bound;
    }

    private static boolean isDoing(int act, int hour, int posture) {
        return below(act, ACTS) && below(hour, HOURS) && below(posture, POSTURES);
    }

    private static int leastBit(int bits) {
        for (int bit = 0; bit < 32; bit++) {
            if ((bits >> bit & 1) != 0) {
                return bit;
            }
        }
        return NONE;
    }

    private static int waysOf(int kind) {
        return kind == BED ? WAYS : 1;
    }

    private static int dutyOf(int walks, int value, int free, int tenths, int walk) {
        int rest = Math.max(0, value - free * walks);
        return walk * walks + (tenths * rest + 9) / 10;
    }

    private int cellTold(int cell, int what) {
        switch (what) {
            case 0: return house.kindOf(cell);
            case 1: return house.sideOf(cell, 0);
            case 2: return now.thingAt(house, cell);
            default: return house.doorOf(cell);
        }
    }

    private int thingTold(int thing, int what) {
        switch (what) {
            case 0: return now.kindOf(thing);
            case 1: return now.cellOf(thing);
            case 2: return now.wayOf(thing);
            default: return now.lastCellOf(house, thing);
        }
    }

    /** Whether a THING of that KIND can have that PLACE, if the one numbered "but" is away. */
    private boolean isRoom(int kind, int place, int but) {
        int spot = house.spot(kind, place);
        return spot != 0 && (spot & now.takenBut(house, but)) == 0;
    }

    private int eventBroken(int event, int by) {
        Table events = now.events;
        int place = 4 * events.get(event, 3) + events.get(event, 4);
        return laws.broken(house, events.get(event, 1), events.get(event, 0),
                events.get(event, 2), place, by);
    }

    private int firstAgainst() {
        int found = NONE;
        int least = HOURS;
        for (int event = 0; event < now.events.size(); event++) {
            int hour = now.events.get(event, 0);
            if (hour < least && eventBroken(event, 0) != 0) {
                least = hour;
                found = event;
            }
        }
        return found;
    }

    /** 0: AGAINST by no WAY, 1: by some, 2: by all. */
    private int mapOf(int act, int hour, int posture, int cell) {
        int ways = 0;
        for (int way = 0; way < WAYS; way++) {
            if (laws.broken(house, act, hour, posture, 4 * cell + way, 0) != 0) {
                ways++;
            }
        }
        if (ways == 0) {
            return 0;
        }
        return ways < WAYS ? 1 : 2;
    }

    private int fitting() {
        int bits = 0;
        for (int by = -FURTHEST; by <= FURTHEST; by++) {
            if (allJudgedSo(by)) {
                bits |= 1 << (by + FURTHEST);
            }
        }
        return bits;
    }

    private boolean allJudgedSo(int by) {
        for (int i = 0; i < now.judgments.size(); i++) {
            if (house.sideOf(now.judgments.get(i, 0), by) != now.judgments.get(i, 1)) {
                return false;
            }
        }
        return true;
    }

    private long digestOfCells(long start) {
        long h = start;
        for (int cell = 0; cell < house.cells(); cell++) {
            for (int what = 0; what < 4; what++) {
                h = 31 * h + cellTold(cell, what);
            }
        }
        return h;
    }

    private long digestOfLaws(long start) {
        long h = start;
        for (int law = 0; law < laws.size(); law++) {
            for (int what = 0; what < LawText.NUMBERS; what++) {
                h = 31 * h + laws.told(law, what);
            }
        }
        return h;
    }

    private long digestOfEvents(long start) {
        long h = start;
        for (int event = 0; event < now.events.size(); event++) {
            for (int column = 0; column < Table.COLUMNS; column++) {
                h = 31 * h + now.events.get(event, column);
            }
            h = 31 * h + eventBroken(event, 0);
        }
        return h;
    }

    private long digestOfThings(long start) {
        long h = start;
        for (int thing = 0; thing < now.things.size(); thing++) {
            for (int what = 0; what < 4; what++) {
                h = 31 * h + thingTold(thing, what);
            }
        }
        return h;
    }

    private static long digestOfPairs(long start, Table table) {
        long h = start;
        for (int i = 0; i < table.size(); i++) {
            h = 31 * h + table.get(i, 0);
            h = 31 * h + table.get(i, 1);
        }
        return h;
    }

    /** THE PAGE: letters by their codes. */
    private static final class Page {
        static final int MOST = 40;
        private static final int LARGEST_CODE = 126;
        private final int[] codes = new int[MOST];
        private int size;

        /** How many letters w tells; NONE: it is not as told. */
        static int lettersIn(long w) {
            int found = 0;
            boolean ended = false;
            for (int i = 0; i < 8; i++) {
                int code = codeIn(w, i);
                if (code > LARGEST_CODE || (ended && code != 0)) {
                    return NONE;
                }
                if (code == 0) {
                    ended = true;
                } else {
                    found++;
                }
            }
            return found;
        }

        private static int codeIn(long w, int i) {
            return (int) (w >>> (8 * i)) & 255;
        }

        void append(long w, int more) {
            for (int i = 0; i < more && size < MOST; i++) {
                codes[size] = codeIn(w, i);
                size++;
            }
        }

        int size() {
            return size;
        }

        int codeAt(int i) {
            return below(i, size) ? codes[i] : 0;
        }

        void clear() {
            size = 0;
        }
    }

    /** A sort of text that THE PAGE may hold, taken letter by letter. */
    private abstract static class Text {
        abstract void begin();

        abstract boolean takes(int letter);

        abstract boolean isWhole();

        /** How many letters of the page are taken, until one is not. */
        final int taken(Page page) {
            begin();
            for (int i = 0; i < page.size(); i++) {
                if (!takes(page.codeAt(i))) {
                    return i;
                }
            }
            return page.size();
        }

        final boolean isOn(Page page) {
            return taken(page) == page.size() && isWhole();
        }
    }

    /** The text of a HOUSE. */
    private static final class HouseText extends Text {
        private int row;
        private int width;
        private int column;
        private boolean hasLine;

        void begin() {
            row = 0;
            // The first ROW alone may choose how many CELLS it has.
            width = NONE;
            column = 0;
            hasLine = false;
        }

        boolean takes(int letter) {
            switch (letter) {
                case '|': return takesLine();
                case '/': return takesRowEnd();
                case '.':
                case '#':
                case 'd': return takesCell();
                default: return false;
            }
        }

        private boolean takesLine() {
            if (hasLine) {
                return false;
            }
            hasLine = true;
            return true;
        }

        private boolean takesRowEnd() {
            if (row + 1 >= MOST_ROWS || !isRowWhole()) {
                return false;
            }
            width = column;
            row++;
            column = 0;
            hasLine = false;
            return true;
        }

        private boolean takesCell() {
            if (column >= (width == NONE ? MOST_COLUMNS : width)) {
                return false;
            }
            column++;
            return true;
        }

        private boolean isRowWhole() {
            return hasLine && (width == NONE ? column >= LEAST_COLUMNS : column == width);
        }

        boolean isWhole() {
            return row + 1 >= LEAST_ROWS && isRowWhole();
        }
    }

    /** The text of a LAW, and the numbers that it tells. */
    private static final class LawText extends Text {
        static final int SIDE = 0, ACT = 1, FROM = 2, TO = 3, KIND = 4, NUMBERS = 5;
        private static final int ENDED = 5;
        private int side;
        private int act;
        private int from;
        private int to;
        private int kind;
        /** What the next letter tells: SIDE to TO, ENDED. */
        private int stage;
        private int digits;

        void begin() {
            side = 0;
            act = 0;
            from = 0;
            to = 0;
            kind = 0;
            stage = SIDE;
            digits = 0;
        }

        boolean takes(int letter) {
            switch (stage) {
                case SIDE: return takesSide(letter);
                case ACT: return takesAct(letter);
                case FROM: return takesFrom(letter);
                case TO: return takesTo(letter);
                default: return false;
            }
        }

        private boolean takesSide(int letter) {
            if (letter != 'w' && letter != 'e') {
                return false;
            }
            side = letter == 'w' ? 0 : 1;
            stage = ACT;
            return true;
        }

        private boolean takesAct(int letter) {
            if (letter < 'a' || letter > 'f') {
                return false;
            }
            act = letter - 'a';
            stage = FROM;
            return true;
        }

        private boolean takesFrom(int letter) {
            if (letter == '-' && digits > 0) {
                stage = TO;
                digits = 0;
                return true;
            }
            int hour = hourWith(from, letter);
            if (hour == NONE) {
                return false;
            }
            from = hour;
            digits++;
            return true;
        }

        private boolean takesTo(int letter) {
            if (digits > 0 && kindTold(letter) != NONE) {
                kind = kindTold(letter);
                stage = ENDED;
                return true;
            }
            int hour = hourWith(to, letter);
            if (hour == NONE) {
                return false;
            }
            to = hour;
            digits++;
            return true;
        }

        /** The hour with one more digit behind those ahead; NONE: there is no such one. */
        private int hourWith(int ahead, int letter) {
            if (letter < '0' || letter > '9') {
                return NONE;
            }
            if (digits == 0) {
                return letter - '0';
            }
            int hour = 10 * ahead + letter - '0';
            return digits == 1 && ahead != 0 && hour < HOURS ? hour : NONE;
        }

        private static int kindTold(int letter) {
            switch (letter) {
                case 'h': return Laws.OF_HEAD;
                case 'n': return Laws.OF_HANDS;
                case 'f': return Laws.OF_FEET;
                case 'o': return Laws.OF_DOOR;
                default: return NONE;
            }
        }

        boolean isWhole() {
            return stage == ENDED || (stage == TO && digits > 0);
        }

        int number(int what) {
            switch (what) {
                case SIDE: return side;
                case ACT: return act;
                case FROM: return from;
                case TO: return to;
                default: return kind;
            }
        }
    }

    /** Rows of five numbers. All tables have room for as many as the longest one needs. */
    private static final class Table {
        static final int COLUMNS = 5;
        private static final int ROOM = 60;
        private final int[] numbers = new int[ROOM];
        private final int most;
        private int size;

        Table(int most) {
            this.most = most;
        }

        int size() {
            return size;
        }

        boolean isFull() {
            return size >= most || (size + 1) * COLUMNS > ROOM;
        }

        /** The number of the new row; NONE: the table is full. */
        int add(int a, int b, int c, int d, int e) {
            if (isFull()) {
                return NONE;
            }
            int row = size;
            size++;
            set(row, 0, a);
            set(row, 1, b);
            set(row, 2, c);
            set(row, 3, d);
            set(row, 4, e);
            return row;
        }

        int get(int row, int column) {
            int at = row * COLUMNS + column;
            return below(row, size) && below(at, ROOM) ? numbers[at] : NONE;
        }

        void set(int row, int column, int number) {
            int at = row * COLUMNS + column;
            if (below(row, size) && below(at, ROOM)) {
                numbers[at] = number;
            }
        }

        void clear() {
            size = 0;
        }

        void copy(Table other) {
            System.arraycopy(other.numbers, 0, numbers, 0, ROOM);
            size = other.size;
        }
    }

    /** THE HOUSE: its CELLS, the LINES, what is beside what. */
    private static final class House {
        private static final int FAR = 1000000;
        private static final int[] DOWN = {-1, 0, 1, 0};
        private static final int[] RIGHT = {0, 1, 0, -1};
        private final int[] kinds = new int[MOST_CELLS];
        private final int[] rowOf = new int[MOST_CELLS];
        private final int[] columnOf = new int[MOST_CELLS];
        private final int[] lines = new int[MOST_ROWS];
        private final int[] beside = new int[PLACES];
        private final int[] ahead = new int[PLACES];
        private final int[] bedSpots = new int[PLACES];
        private final int[] otherSpots = new int[PLACES];
        private final int[] doors = new int[MOST_CELLS];
        private final int[] doorSteps = new int[MOST_CELLS];
        private final int[] costs = new int[MOST_CELLS];
        private int cells;
        private int rows;
        private int width;

        /** The page holds the text of a HOUSE. */
        void read(Page page) {
            cells = 0;
            int row = 0;
            int column = 0;
            for (int i = 0; i < page.size(); i++) {
                int letter = page.codeAt(i);
                if (letter == '/') {
                    row++;
                    column = 0;
                } else if (letter == '|') {
                    setLine(row, column);
                } else {
                    addCell(letter, row, column);
                    column++;
                }
            }
            rows = row + 1;
            width = column;
            joinCells();
            findDoors();
        }

        private void setLine(int row, int column) {
            if (below(row, MOST_ROWS)) {
                lines[row] = column;
            }
        }

        private void addCell(int letter, int row, int column) {
            if (cells >= MOST_CELLS) {
                return;
            }
            if (letter == 'd') {
                kinds[cells] = DOOR;
            } else {
                kinds[cells] = letter == '#' ? WALL : FLOOR;
            }
            rowOf[cells] = row;
            columnOf[cells] = column;
            cells++;
        }

        private void joinCells() {
            for (int place = 0; place < PLACES; place++) {
                joinPlace(place, place >> 2, place & 3);
            }
        }

        private void joinPlace(int place, int cell, int way) {
            int next = NONE;
            if (cell < cells) {
                next = cellAt(rowOf[cell] + DOWN[way], columnOf[cell] + RIGHT[way]);
            }
            beside[place] = next;
            ahead[place] = isOpen(next) ? next : cell;
            bedSpots[place] = isFloor(cell) && isFloor(next) ? 1 << cell | 1 << next : 0;
            otherSpots[place] = isFloor(cell) && way == 0 ? 1 << cell : 0;
        }

        private int cellAt(int row, int column) {
            return below(row, rows) && below(column, width) ? row * width + column : NONE;
        }

        private void findDoors() {
            for (int cell = 0; cell < MOST_CELLS; cell++) {
                doors[cell] = NONE;
                doorSteps[cell] = FAR;
            }
            for (int cell = 0; cell < cells && cell < MOST_CELLS; cell++) {
                if (kinds[cell] == DOOR) {
                    findWhereNearest(cell);
                }
            }
        }

        /** STEPS are as many to a DOOR as from it; of like ones the DOOR ahead stays. */
        private void findWhereNearest(int door) {
            measure(door, 0, 0);
            for (int cell = 0; cell < cells && cell < MOST_CELLS; cell++) {
                if (costs[cell] < doorSteps[cell]) {
                    doorSteps[cell] = costs[cell];
                    doors[cell] = door;
                }
            }
        }

        boolean isThere() {
            return cells > 0;
        }

        int cells() {
            return cells;
        }

        boolean has(int cell) {
            return below(cell, cells);
        }

        int kindOf(int cell) {
            return cell >= 0 && cell < cells && cell < MOST_CELLS ? kinds[cell] : WALL;
        }

        boolean isOpen(int cell) {
            return kindOf(cell) != WALL;
        }

        boolean isFloor(int cell) {
            return kindOf(cell) == FLOOR;
        }

        /** The SIDE, if THE LINE were drawn so many CELLS further to the right. */
        int sideOf(int cell, int by) {
            if (!below(cell, cells) || cell >= MOST_CELLS || !below(rowOf[cell], MOST_ROWS)) {
                return NONE;
            }
            // A LINE that would leave its ROW has the same CELLS ahead as one at the ROW's end.
            return columnOf[cell] < lines[rowOf[cell]] + by ? 0 : 1;
        }

        /** The CELL that WAY, a WALL, too; NONE: THE HOUSE ends there. */
        int next(int cell, int way) {
            int place = 4 * cell + way;
            return below(way, WAYS) && below(place, PLACES) ? beside[place] : NONE;
        }

        /** The PLACE is 4 times CELL and WAY. */
        int partAt(int posture, int place, int part) {
            if (!below(place, PLACES)) {
                return NONE;
            }
            boolean reaches;
            switch (part) {
                case HANDS: reaches = posture == STANDS; break;
                case ONE_FOOT: reaches = posture == LIES; break;
                case OTHER_FOOT: reaches = posture != STANDS; break;
                default: reaches = false;
            }
            return reaches ? ahead[place] : place >> 2;
        }

        int doorOf(int cell) {
            return cell >= 0 && cell < MOST_CELLS ? doors[cell] : NONE;
        }

        int doorOrOwn(int cell) {
            int door = doorOf(cell);
            return door == NONE ? cell : door;
        }

        /** The CELLS, as bits, that a THING has in that PLACE; 0: it can't be there. */
        int spot(int kind, int place) {
            if (!below(place, PLACES)) {
                return 0;
            }
            return kind == BED ? bedSpots[place] : otherSpots[place];
        }

        /** What the cheapest way costs; NONE: there is none. */
        int cost(int from, int to, int toll, int taken) {
            measure(from, toll, taken);
            return below(to, MOST_CELLS) && costs[to] < FAR ? costs[to] : NONE;
        }

        /** Costs to every CELL; those of "taken" (bits) are reached, but nothing goes on there. */
        private void measure(int from, int toll, int taken) {
            for (int cell = 0; cell < MOST_CELLS; cell++) {
                costs[cell] = cell == from ? 0 : FAR;
            }
            boolean cheaper = true;
            // No way has more steps than there are CELLS, so that so many rounds are enough.
            for (int round = 0; cheaper && round < MOST_CELLS; round++) {
                cheaper = false;
                for (int cell = 0; cell < cells && cell < MOST_CELLS; cell++) {
                    boolean goesOn = cell == from || (taken >> cell & 1) == 0;
                    if (goesOn && costs[cell] < FAR && goOn(cell, toll)) {
                        cheaper = true;
                    }
                }
            }
        }

        /** Whether a CELL beside this one has become cheaper. */
        private boolean goOn(int cell, int toll) {
            boolean cheaper = false;
            for (int way = 0; way < WAYS; way++) {
                int next = next(cell, way);
                if (below(next, MOST_CELLS) && below(cell, MOST_CELLS) && isOpen(next)) {
                    int step = sideOf(cell, 0) == sideOf(next, 0) ? 1 : 1 + toll;
                    if (costs[cell] + step < costs[next]) {
                        costs[next] = costs[cell] + step;
                        cheaper = true;
                    }
                }
            }
            return cheaper;
        }
    }

    /** The LAWS, and what is AGAINST them. */
    private static final class Laws {
        static final int OF_HEAD = 1, OF_HANDS = 2, OF_FEET = 3, OF_DOOR = 4, KINDS = 5;
        private final Table laws = new Table(MOST_LAWS);

        static boolean isOfKind(int kind, int asKind) {
            return asKind == 0 || kind == asKind || (kind == OF_FEET && asKind == OF_HEAD);
        }

        int size() {
            return laws.size();
        }

        boolean isFull() {
            return laws.isFull();
        }

        int add(LawText text) {
            return laws.add(text.number(0), text.number(1), text.number(2), text.number(3),
                    text.number(4));
        }

        int told(int law, int what) {
            return laws.get(law, what);
        }

        /** The LAWS, as bits, that an ACT at a PLACE (4 times CELL and WAY) is AGAINST. */
        int broken(House house, int act, int hour, int posture, int place, int by) {
            int bits = 0;
            for (int law = 0; law < laws.size(); law++) {
                if (laws.get(law, LawText.ACT) == act && holds(law, hour)
                        && counts(house, law, posture, place, by)) {
                    bits |= 1 << law;
                }
            }
            return bits;
        }

        private boolean holds(int law, int hour) {
            int from = laws.get(law, LawText.FROM);
            int to = laws.get(law, LawText.TO);
            if (from < to) {
                return hour >= from && hour < to;
            }
            return from == to || hour >= from || hour < to;
        }

        private boolean counts(House house, int law, int posture, int place, int by) {
            int side = laws.get(law, LawText.SIDE);
            int cell = place >> 2;
            switch (laws.get(law, LawText.KIND)) {
                case OF_HEAD:
                    return house.sideOf(cell, by) == side;
                case OF_HANDS:
                    return house.sideOf(house.partAt(posture, place, HANDS), by) == side;
                case OF_FEET:
                    return house.sideOf(cell, by) == side
                            && house.sideOf(house.partAt(posture, place, ONE_FOOT), by) == side
                            && house.sideOf(house.partAt(posture, place, OTHER_FOOT), by) == side;
                case OF_DOOR:
                    return house.sideOf(house.doorOrOwn(cell), by) == side;
                default:
                    return true;
            }
        }
    }

    /** What an IMAGE keeps: THINGS, EVENTS, HABITS, JUDGMENTS. */
    private static final class Day {
        private static final int KIND = 0, CELL = 1, WAY = 2;
        final Table things = new Table(MOST_THINGS);
        final Table events = new Table(MOST_EVENTS);
        final Table habits = new Table(MOST_HABITS);
        final Table judgments = new Table(MOST_JUDGMENTS);

        void clear() {
            things.clear();
            events.clear();
            habits.clear();
            judgments.clear();
        }

        void copy(Day other) {
            things.copy(other.things);
            events.copy(other.events);
            habits.copy(other.habits);
            judgments.copy(other.judgments);
        }

        static boolean isOfKind(int kind, int asKind) {
            return asKind == 0 || kind == asKind || (kind == BENCH && asKind == TABLE);
        }

        int kindOf(int thing) {
            return things.get(thing, KIND);
        }

        int cellOf(int thing) {
            return things.get(thing, CELL);
        }

        int wayOf(int thing) {
            return things.get(thing, WAY);
        }

        int placeOf(int thing) {
            return 4 * cellOf(thing) + wayOf(thing);
        }

        void setPlace(int thing, int cell, int way) {
            things.set(thing, CELL, cell);
            things.set(thing, WAY, way);
        }

        int lastCellOf(House house, int thing) {
            int cell = cellOf(thing);
            return kindOf(thing) == BED ? house.next(cell, wayOf(thing)) : cell;
        }

        /** The CELLS, as bits, that THINGS have, but for the one numbered "but". */
        int takenBut(House house, int but) {
            int taken = 0;
            for (int thing = 0; thing < things.size(); thing++) {
                if (thing != but) {
                    taken |= house.spot(kindOf(thing), placeOf(thing));
                }
            }
            return taken;
        }

        int thingAt(House house, int cell) {
            for (int thing = 0; thing < things.size(); thing++) {
                if ((house.spot(kindOf(thing), placeOf(thing)) >> cell & 1) != 0) {
                    return thing;
                }
            }
            return NONE;
        }
    }

    /** Where each HABIT is AGAINST no LAW, wherever THINGS are. */
    private static final class Keeping {
        private static final int IN_BED = 0, FIRST_WITHOUT_THING = 3, STRIDING = 4;
        private final int[] acts = new int[MOST_HABITS];
        /**
         * For each HABIT and CELL: as bits, for a BED there the WAYS that are good; for a TABLE
         * there the CELLS to stand in; for what wants no THING at the first CELL all that are good.
         */
        private final int[] good = new int[MOST_HABITS * MOST_CELLS];
        private int size;

        void learn(House house, Laws laws, Day day) {
            size = Math.min(MOST_HABITS, day.habits.size());
            for (int habit = 0; habit < size; habit++) {
                acts[habit] = day.habits.get(habit, 0);
                for (int cell = 0; cell < MOST_CELLS; cell++) {
                    good[habit * MOST_CELLS + cell] = 0;
                }
                learnOne(house, laws, habit, day.habits.get(habit, 1));
            }
        }

        private void learnOne(House house, Laws laws, int habit, int hour) {
            int act = actOf(habit);
            int posture = postureOf(act);
            for (int place = 0; place < 4 * house.cells(); place++) {
                if (house.isOpen(place >> 2)
                        && laws.broken(house, act, hour, posture, place, 0) == 0) {
                    note(house, habit, act, place);
                }
            }
        }

        private static int postureOf(int act) {
            if (act == IN_BED) {
                return LIES;
            }
            return act == STRIDING ? STRIDES : STANDS;
        }

        private void note(House house, int habit, int act, int place) {
            int cell = place >> 2;
            if (act >= FIRST_WITHOUT_THING) {
                add(habit, 0, 1 << cell);
            } else if (act != IN_BED) {
                add(habit, house.next(cell, place & 3), 1 << cell);
            } else if (house.spot(BED, place) != 0) {
                add(habit, cell, 1 << (place & 3));
            }
        }

        private void add(int habit, int cell, int bit) {
            if (below(habit, MOST_HABITS) && below(cell, MOST_CELLS)) {
                good[habit * MOST_CELLS + cell] |= bit;
            }
        }

        int size() {
            return size;
        }

        int actOf(int habit) {
            return habit >= 0 && habit < MOST_HABITS ? acts[habit] : NONE;
        }

        boolean wantsThing(int habit) {
            return actOf(habit) < FIRST_WITHOUT_THING;
        }

        /** Whether it is KEPT by a THING of that KIND there, if those CELLS are taken. */
        boolean isKeptBy(int habit, int kind, int place, int taken) {
            int act = actOf(habit);
            if (!Day.isOfKind(kind, act + 1)) {
                return false;
            }
            int there = goodAt(habit, place >> 2);
            return act == IN_BED ? (there >> (place & 3) & 1) != 0 : (there & ~taken) != 0;
        }

        boolean isKeptWithout(int habit, int taken) {
            return (goodAt(habit, 0) & ~taken) != 0;
        }

        private int goodAt(int habit, int cell) {
            int at = habit * MOST_CELLS + cell;
            return at >= 0 && at < good.length ? good[at] : 0;
        }

        /** Whether some HABIT can't be KEPT, wherever THINGS are. */
        boolean isHopeless() {
            for (int habit = 0; habit < size; habit++) {
                int any = 0;
                for (int cell = 0; cell < MOST_CELLS; cell++) {
                    any |= goodAt(habit, cell);
                }
                if (any == 0) {
                    return true;
                }
            }
            return false;
        }
    }

    /** The search for the fewest THINGS to set elsewhere. */
    private static final class Mover {
        static final int NUMBERS = 5;
        private final int[] kinds = new int[MOST_THINGS];
        private final int[] places = new int[MOST_THINGS];
        private final int[] spots = new int[MOST_THINGS];
        /** How many are moved, the first one, its PLACE, the second one, its PLACE. */
        private final int[] answer = new int[NUMBERS];
        private int size;
        private int hardest;

        /** All THINGS are where they are now. */
        void begin(House house, Day day) {
            size = Math.min(MOST_THINGS, day.things.size());
            hardest = 0;
            for (int thing = 0; thing < size; thing++) {
                kinds[thing] = day.kindOf(thing);
                places[thing] = day.placeOf(thing);
                spots[thing] = house.spot(kinds[thing], places[thing]);
            }
        }

        int told(int what) {
            return below(what, NUMBERS) ? answer[what] : NONE;
        }

        boolean isDoneByNone(Keeping keeping) {
            boolean done = allKept(keeping, takenBut(NONE, NONE));
            tell(done ? 0 : NONE, NONE, NONE);
            return done;
        }

        private void tell(int howMany, int one, int other) {
            answer[0] = howMany;
            answer[1] = one;
            answer[2] = placeOf(one);
            answer[3] = other;
            answer[4] = placeOf(other);
        }

        private int placeOf(int thing) {
            return below(thing, MOST_THINGS) ? places[thing] : NONE;
        }

        boolean isDoneByOne(House house, Keeping keeping) {
            for (int thing = 0; thing < size; thing++) {
                if (isDoneBy(thing, house, keeping)) {
                    tell(1, thing, NONE);
                    return true;
                }
            }
            return false;
        }

        /** Sets that THING elsewhere so that all are KEPT; if it can't, it is where it was. */
        private boolean isDoneBy(int thing, House house, Keeping keeping) {
            if (!below(thing, MOST_THINGS)) {
                return false;
            }
            int home = places[thing];
            int homeSpot = spots[thing];
            int others = takenBut(thing, NONE);
            for (int place = 0; place < PLACES; place++) {
                int spot = house.spot(kinds[thing], place);
                if (place != home && spot != 0 && (spot & others) == 0) {
                    places[thing] = place;
                    spots[thing] = spot;
                    if (allKept(keeping, others | spot)) {
                        return true;
                    }
                }
            }
            places[thing] = home;
            spots[thing] = homeSpot;
            return false;
        }

        void searchTwo(House house, Keeping keeping) {
            for (int thing = 0; thing + 1 < size && thing < MOST_THINGS; thing++) {
                int home = places[thing];
                int homeSpot = spots[thing];
                for (int place = 0; place < PLACES; place++) {
                    int spot = house.spot(kinds[thing], place);
                    if (place != home && spot != 0) {
                        places[thing] = place;
                        spots[thing] = spot;
                        if (isDoneWith(thing, house, keeping)) {
                            return;
                        }
                    }
                }
                places[thing] = home;
                spots[thing] = homeSpot;
            }
        }

        private boolean isDoneWith(int one, House house, Keeping keeping) {
            int spot = below(one, MOST_THINGS) ? spots[one] : 0;
            for (int other = one + 1; other < size; other++) {
                // The first one may be set where the second one was: both are moved at once.
                if ((spot & takenBut(one, other)) == 0 && isDoneBy(other, house, keeping)) {
                    tell(2, one, other);
                    return true;
                }
            }
            return false;
        }

        private int takenBut(int one, int other) {
            int taken = 0;
            for (int thing = 0; thing < size && thing < MOST_THINGS; thing++) {
                if (thing != one && thing != other) {
                    taken |= spots[thing];
                }
            }
            return taken;
        }

        private boolean allKept(Keeping keeping, int taken) {
            // What was not KEPT the last time is likely not KEPT again, and most trials end here.
            if (hardest < keeping.size() && !isKeptNow(keeping, hardest, taken)) {
                return false;
            }
            for (int habit = 0; habit < keeping.size(); habit++) {
                if (!isKeptNow(keeping, habit, taken)) {
                    hardest = habit;
                    return false;
                }
            }
            return true;
        }

        boolean isKept(Keeping keeping, int habit) {
            return isKeptNow(keeping, habit, takenBut(NONE, NONE));
        }

        private boolean isKeptNow(Keeping keeping, int habit, int taken) {
            if (!keeping.wantsThing(habit)) {
                return keeping.isKeptWithout(habit, taken);
            }
            for (int thing = 0; thing < size && thing < MOST_THINGS; thing++) {
                if (keeping.isKeptBy(habit, kinds[thing], places[thing], taken)) {
                    return true;
                }
            }
            return false;
        }
    }
}
