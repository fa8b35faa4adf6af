/** Promises 10 to 14: parts, AGAINST, EVENTS, FIRST, MAP. */
final class ActEdges extends Edges {
    private static final int STANDS = 0, LIES = 1, STRIDES = 2;
    private static final int UP = 0, RIGHT = 1, DOWN = 2, LEFT = 3;

    static void run() {
        ahead();
        parts();
        openAlone();
        partRefused();
        hoursOfLaws();
        actsOfLaws();
        againstParts();
        againstDoor();
        againstBits();
        againstRefused();
        eventNumbers();
        eventRefused();
        firstNone();
        firstOfLike();
        firstByPostures();
        mapCounts();
        mapRefused();
    }

    // ---- part

    private static void hands(BorderThroughBed x, int cell, int... ahead) {
        for (int way = 0; way < 4; way++) {
            due("HANDS in " + cell + " towards " + way, x.part(STANDS, cell, way, 1), ahead[way]);
        }
    }

    private static void ahead() {
        says(10, "WAYS are 0 up, 1 right, 2 down, 3 left.");
        hands(wide(), 7, 1, 8, 13, 6);
        says(10, "AHEAD is the CELL that WAY, if it is there and no WALL, else its own.");
        hands(wide(), 0, 0, 1, 6, 0);
        hands(wide(), 5, 5, 5, 11, 4);
        hands(wide(), 6, 0, 7, 12, 6);
        hands(wide(), 11, 5, 11, 17, 10);
        hands(wide(), 18, 12, 19, 18, 18);
        hands(wide(), 23, 17, 23, 23, 22);
        hands(wide(), 20, 14, 21, 20, 19);
        hands(with("|.#./|#.#/|.#."), 4, 4, 4, 4, 4);
        hands(with("|.d./|d.d/|.d."), 4, 1, 5, 7, 3);
        hands(with("|d./|.d"), 3, 1, 3, 3, 2);
        hands(with("|.d/|#."), 1, 1, 1, 3, 0);
        hands(with("|../|.."), 3, 1, 3, 3, 2);
        BorderThroughBed x = wide();
        x.thing(0, 1, 0);
        x.thing(0, 7, 0);
        hands(x, 7, 1, 8, 13, 6);
        hands(x, 1, 1, 2, 7, 0);
    }

    private static void parts() {
        says(10, "POSTURES: 0 STANDS, 1 LIES, 2 STRIDES, in an OPEN CELL, towards a WAY.");
        due("HANDS of one that STANDS", wide().part(STANDS, 7, RIGHT, 1), 8);
        due("one FOOT of one that LIES", wide().part(LIES, 7, RIGHT, 2), 8);
        due("one FOOT of one that STRIDES", wide().part(STRIDES, 7, RIGHT, 2), 7);
        due("in a DOOR", with("|d./|..").part(STANDS, 0, RIGHT, 1), 1);
        says(10, "The CELL of a part: 0 HEAD, 1 HANDS, 2 one FOOT, 3 the other one.");
        due("in the first CELL of the greatest HOUSE", wide().part(LIES, 0, DOWN, 3), 6);
        due("in the last CELL of the greatest HOUSE", wide().part(LIES, 23, UP, 3), 17);
        says(10, "HEAD: its own; HANDS: AHEAD if it STANDS, else its own; FEET: both its own if it "
                + "STANDS, both AHEAD if it LIES, one and one if it STRIDES.");
        int[][] isAhead = {{0, 1, 0, 0}, {0, 0, 1, 1}, {0, 0, 0, 1}};
        int[] towards = {1, 8, 13, 6};
        for (int posture = 0; posture < 3; posture++) {
            for (int way = 0; way < 4; way++) {
                for (int part = 0; part < 4; part++) {
                    String call = "part(" + posture + ", n, " + way + ", " + part + ")";
                    int ahead = isAhead[posture][part] == 1 ? towards[way] : 7;
                    due(call + ", n = 7", wide().part(posture, 7, way, part), ahead);
                    due(call + ", between WALLS", with("|.#/|#.").part(posture, 3, way, part), 3);
                }
            }
        }
    }

    private static void openAlone() {
        String words = "acts (UNKNOWN: cell (one that is not OPEN, too); OUTSIDE: act (0 to 5), hour "
                + "(0 to 23), posture, way)";
        for (int posture = 0; posture < 3; posture++) {
            for (int way = 0; way < 4; way++) {
                int p = posture;
                int w = way;
                says(10, words);
                refused("a WALL", Edges::full, x -> x.part(p, 7, w, 0), UNKNOWN);
                taken("a DOOR", Edges::full, x -> x.part(p, 11, w, 0));
                says(11, words);
                refused("a WALL", Edges::full, x -> x.against(5, 23, p, 7, w), UNKNOWN);
                taken("a DOOR", Edges::full, x -> x.against(5, 23, p, 11, w));
                says(12, words);
                refused("a WALL", Edges::full, x -> x.event(23, 5, p, 7, w), UNKNOWN);
                taken("a DOOR", Edges::some, x -> x.event(23, 5, p, 3, w));
            }
        }
    }

    private static void partRefused() {
        says(10, "UNKNOWN;");
        range("part(0, n, 0, 0) of 24", Edges::wide, (x, n) -> x.part(0, n, 0, 0), 0, 23, UNKNOWN);
        onlyBeyond("part(2, n, 3, 3) of 12", Edges::some, (x, n) -> x.part(2, n, 3, 3), 0, 11,
                UNKNOWN);
        onlyBeyond("part(0, n, 0, 0), no HOUSE", Edges::bare, (x, n) -> x.part(0, n, 0, 0), 0, -1,
                UNKNOWN);
        refused("a WALL", Edges::some, x -> x.part(0, 5, 0, 0), UNKNOWN);
        taken("a DOOR", Edges::some, x -> x.part(0, 3, 0, 0));
        says(10, "OUTSIDE: posture, way, part.");
        range("part(n, 0, 0, 0)", Edges::some, (x, n) -> x.part(n, 0, 0, 0), 0, 2, OUTSIDE);
        range("part(0, 0, n, 0)", Edges::some, (x, n) -> x.part(0, 0, n, 0), 0, 3, OUTSIDE);
        range("part(0, 0, 0, n)", Edges::some, (x, n) -> x.part(0, 0, 0, n), 0, 3, OUTSIDE);
        says(10, "UNKNOWN; OUTSIDE: posture, way, part.");
        refused("all but the CELL", Edges::some, x -> x.part(3, 0, 4, 4), OUTSIDE);
        refused("all", Edges::some, x -> x.part(3, 12, 4, 4), UNKNOWN);
        refused("a WALL, posture", Edges::some, x -> x.part(-1, 5, 0, 0), UNKNOWN);
        refused("a WALL, way", Edges::some, x -> x.part(0, 5, -1, 0), UNKNOWN);
        refused("a WALL, part", Edges::some, x -> x.part(0, 5, 0, -1), UNKNOWN);
        refused("no HOUSE, all", Edges::bare, x -> x.part(3, 0, 4, 4), UNKNOWN);
    }

    // ---- against

    /** Every pair of hours, eight LAWS an object. */
    private static void hoursOfLaws() {
        says(11, "A LAW holds from hour FROM until ahead of TO (round the clock; always, if they are "
                + "alike).");
        for (int first = 0; first < 24 * 24; first += 8) {
            String[] laws = new String[8];
            for (int law = 0; law < 8; law++) {
                laws[law] = "wa" + (first + law) / 24 + "-" + (first + law) % 24;
            }
            BorderThroughBed x = with("|../|..", laws);
            for (int hour = 0; hour < 24; hour++) {
                int bits = 0;
                for (int law = 0; law < 8; law++) {
                    boolean holds = holds((first + law) / 24, (first + law) % 24, hour);
                    bits |= holds ? 1 << law : 0;
                }
                due(laws[0] + " and the next, hour " + hour, x.against(0, hour, 0, 0, 0), bits);
            }
        }
    }

    /** Goes round the clock from FROM on, hour by hour. */
    private static boolean holds(int from, int to, int hour) {
        int at = from;
        do {
            if (at == hour) {
                return true;
            }
            at = at == 23 ? 0 : at + 1;
        } while (at != to && at != from);
        return false;
    }

    private static void actsOfLaws() {
        says(11, "AGAINST: who does that ACT at an hour at which it holds,");
        BorderThroughBed x = with("|../|..", "wa0-0", "wb0-0", "wc0-0", "wd0-0", "we0-0", "wf0-0");
        for (int act = 0; act < 6; act++) {
            due("ACT " + act, x.against(act, 12, 0, 0, 0), 1 << act);
        }
        says(11, "They are of KINDS: 0 LAW (nothing told: it counts wherever one is), 1 HEAD, 2 "
                + "HANDS, 3 FEET, 4 DOOR.");
        String[] kinds = {"wa0-0", "wa0-0h", "wa0-0n", "wa0-0f", "wa0-0o"};
        for (int law = 0; law < 5; law++) {
            due(kinds[law] + ", its KIND", with("|../|..", kinds).lawTold(law, 4), law);
        }
        due("all KINDS in the WEST", with("..|/..|", kinds).against(0, 0, 0, 0, 0), 31);
        due("all KINDS in the EAST", with("|../|..", kinds).against(0, 0, 0, 0, 0), 1);
        says(11, "a LAW that tells nothing counts on both SIDES.");
        BorderThroughBed y = with(".|./.|.", "wa0-0", "ea0-0");
        for (int cell = 0; cell < 4; cell++) {
            due("CELL " + cell, y.against(0, 0, 0, cell, 0), 3);
        }
    }

    /** In one CELL, towards the other one, for each place of THE LINE. */
    private static void againstParts() {
        says(11, "if HEAD (HANDS; HEAD and both FEET;");
        String[] laws = {"wa0-0h", "ea0-0h", "wa0-0n", "ea0-0n", "wa0-0f", "ea0-0f"};
        for (String house : new String[] {"..|/##|", ".|./#|#", "|../|##"}) {
            BorderThroughBed x = with(house, laws);
            for (int cell = 0; cell < 2; cell++) {
                int own = x.cell(cell, 1);
                int other = x.cell(1 - cell, 1);
                int way = cell == 0 ? RIGHT : LEFT;
                int head = 1 << own;
                int both = own == other ? 16 << own : 0;
                String told = house + ", CELL " + cell;
                due(told + ", STANDS", x.against(0, 0, STANDS, cell, way),
                        head | 4 << other | 16 << own);
                due(told + ", LIES", x.against(0, 0, LIES, cell, way), head | 4 << own | both);
                due(told + ", STRIDES", x.against(0, 0, STRIDES, cell, way), head | 4 << own | both);
                for (int posture = 0; posture < 3; posture++) {
                    due(told + ", nothing is ahead, " + posture,
                            x.against(0, 0, posture, cell, UP), head | 4 << own | 16 << own);
                    due(told + ", a WALL is ahead, " + posture,
                            x.against(0, 0, posture, cell, DOWN), head | 4 << own | 16 << own);
                }
            }
        }
        says(11, "(just if HEAD and both FEET are there it counts)");
        BorderThroughBed y = with(".|./.|.", "wa0-0f", "ea0-0f");
        due("HEAD in the WEST, FEET in the EAST", y.against(0, 0, LIES, 0, RIGHT), 0);
        due("one FOOT in the EAST", y.against(0, 0, STRIDES, 0, RIGHT), 0);
        due("all in the WEST", y.against(0, 0, LIES, 0, DOWN), 1);
        due("all in the EAST", y.against(0, 0, STRIDES, 3, UP), 2);
        due("the HANDS don't count", y.against(0, 0, STANDS, 0, RIGHT), 1);
    }

    private static void againstDoor() {
        String[] laws = {"wa0-0o", "ea0-0o"};
        says(11, "the DOOR that is nearest by STEPS without THINGS from its own CELL, of like ones the "
                + "least;");
        BorderThroughBed x = with("d...|d/##..|#", laws);
        int[] bits = {1, 1, 1, 2, 2, 0, 0, 1, 2};
        for (int cell : new int[] {0, 1, 2, 3, 4, 7, 8}) {
            due("nearest, CELL " + cell, x.against(0, 0, STANDS, cell, UP), bits[cell]);
        }
        x.thing(0, 2, 0);
        x.thing(0, 1, 0);
        due("THINGS are on the way", x.against(0, 0, STANDS, 2, UP), 1);
        due("its own CELL, not the one AHEAD", x.against(0, 0, LIES, 2, RIGHT), 1);
        says(11, "without such a one its own CELL) is on its SIDE;");
        BorderThroughBed y = with(".|.#d/.|.##", laws);
        due("no way to the DOOR, WEST", y.against(0, 0, STANDS, 0, RIGHT), 1);
        due("no way to the DOOR, EAST", y.against(0, 0, LIES, 1, LEFT), 2);
        BorderThroughBed z = with(".|./.|.", laws);
        due("no DOOR, WEST", z.against(0, 0, STRIDES, 2, RIGHT), 1);
        due("no DOOR, EAST", z.against(0, 0, STRIDES, 3, LEFT), 2);
        due("in the DOOR itself", with(".|d/d|.", laws).against(0, 0, STANDS, 1, LEFT), 2);
    }

    private static void againstBits() {
        says(11, "AGAINST which LAWS, as bits.");
        BorderThroughBed x = with("|../|..");
        for (int law = 0; law < 8; law++) {
            due("LAW " + law, Check.law(x, "wa0-0"), law);
            due("LAW " + law + " and those ahead", x.against(0, 23, 2, 3, 3), (2 << law) - 1);
        }
        due("another ACT", x.against(1, 23, 2, 3, 3), 0);
        due("no LAWS", with("|../|..").against(0, 0, 0, 0, 0), 0);
        due("the first LAW alone", full().against(5, 0, 0, 0, 0), 1);
        due("each LAW holds", full().against(5, 7, 0, 0, 0), 255);
        due("no LAW holds any more", full().against(5, 9, 0, 0, 0), 0);
    }

    private static void againstRefused() {
        says(11, "UNKNOWN;");
        range("against(0, 0, 0, n, 0) of 24", Edges::wide, (x, n) -> x.against(0, 0, 0, n, 0), 0, 23,
                UNKNOWN);
        onlyBeyond("against(5, 23, 2, n, 3) of 12", Edges::some, (x, n) -> x.against(5, 23, 2, n, 3),
                0, 11, UNKNOWN);
        onlyBeyond("against(0, 0, 0, n, 0), no HOUSE", Edges::bare,
                (x, n) -> x.against(0, 0, 0, n, 0), 0, -1, UNKNOWN);
        refused("a WALL", Edges::some, x -> x.against(0, 0, 0, 5, 0), UNKNOWN);
        taken("a DOOR", Edges::some, x -> x.against(0, 0, 0, 3, 0));
        says(11, "UNKNOWN; OUTSIDE.");
        range("against(n, 0, 0, 0, 0)", Edges::some, (x, n) -> x.against(n, 0, 0, 0, 0), 0, 5,
                OUTSIDE);
        range("against(0, n, 0, 0, 0)", Edges::some, (x, n) -> x.against(0, n, 0, 0, 0), 0, 23,
                OUTSIDE);
        range("against(0, 0, n, 0, 0)", Edges::some, (x, n) -> x.against(0, 0, n, 0, 0), 0, 2,
                OUTSIDE);
        range("against(0, 0, 0, 0, n)", Edges::some, (x, n) -> x.against(0, 0, 0, 0, n), 0, 3,
                OUTSIDE);
        refused("all but the CELL", Edges::some, x -> x.against(6, 24, 3, 0, 4), OUTSIDE);
        refused("all", Edges::some, x -> x.against(6, 24, 3, 12, 4), UNKNOWN);
        refused("a WALL, act", Edges::some, x -> x.against(-1, 0, 0, 5, 0), UNKNOWN);
        refused("a WALL, hour", Edges::some, x -> x.against(0, 24, 0, 5, 0), UNKNOWN);
        refused("a WALL, posture", Edges::some, x -> x.against(0, 0, 3, 5, 0), UNKNOWN);
        refused("a WALL, way", Edges::some, x -> x.against(0, 0, 0, 5, 4), UNKNOWN);
        refused("no HOUSE, all", Edges::bare, x -> x.against(6, 24, 3, 0, 4), UNKNOWN);
    }

    // ---- event

    private static void eventNumbers() {
        says(12, "EVENTS (12 at most, numbered): hour, ACT, POSTURE, CELL, WAY.");
        BorderThroughBed x = wide();
        for (int event = 0; event < 12; event++) {
            due("the EVENT " + event, x.event(23, 5, 2, 23, 3), event);
            due("how many", x.count(2), event + 1);
        }
        due("a thirteenth", x.event(23, 5, 2, 23, 3), FULL);
        due("an EVENT that is like another one", full().count(2), 12);
        says(12, "An EVENT: its number.");
        due("the first one behind a HOUSE", with("|../|..").event(0, 0, 0, 0, 0), 0);
        due("the third one", some().event(0, 0, 0, 3, 0), 2);
        BorderThroughBed y = some();
        y.restore();
        due("behind the IMAGE's", y.event(0, 0, 0, 3, 0), 1);
    }

    private static void eventRefused() {
        says(12, "UNKNOWN;");
        range("event(0, 0, 0, n, 0) of 24", Edges::wide, (x, n) -> x.event(0, 0, 0, n, 0), 0, 23,
                UNKNOWN);
        onlyBeyond("event(23, 5, 2, n, 3) of 12", Edges::some, (x, n) -> x.event(23, 5, 2, n, 3), 0,
                11, UNKNOWN);
        onlyBeyond("event(0, 0, 0, n, 0), no HOUSE", Edges::bare, (x, n) -> x.event(0, 0, 0, n, 0), 0,
                -1, UNKNOWN);
        refused("a WALL", Edges::some, x -> x.event(0, 0, 0, 5, 0), UNKNOWN);
        taken("a DOOR", Edges::some, x -> x.event(0, 0, 0, 3, 0));
        says(12, "OUTSIDE;");
        range("event(n, 0, 0, 0, 0)", Edges::some, (x, n) -> x.event(n, 0, 0, 0, 0), 0, 23, OUTSIDE);
        range("event(0, n, 0, 0, 0)", Edges::some, (x, n) -> x.event(0, n, 0, 0, 0), 0, 5, OUTSIDE);
        range("event(0, 0, n, 0, 0)", Edges::some, (x, n) -> x.event(0, 0, n, 0, 0), 0, 2, OUTSIDE);
        range("event(0, 0, 0, 0, n)", Edges::some, (x, n) -> x.event(0, 0, 0, 0, n), 0, 3, OUTSIDE);
        says(12, "FULL.");
        refused("a thirteenth", Edges::full, x -> x.event(0, 0, 0, 0, 0), FULL);
        says(12, "UNKNOWN; OUTSIDE; FULL.");
        refused("all three", Edges::full, x -> x.event(24, 6, 3, 24, 4), UNKNOWN);
        refused("a WALL and full", Edges::full, x -> x.event(0, 0, 0, 7, 0), UNKNOWN);
        refused("a WALL, hour", Edges::some, x -> x.event(-1, 0, 0, 5, 0), UNKNOWN);
        refused("hour and full", Edges::full, x -> x.event(24, 0, 0, 0, 0), OUTSIDE);
        refused("act and full", Edges::full, x -> x.event(0, 6, 0, 0, 0), OUTSIDE);
        refused("posture and full", Edges::full, x -> x.event(0, 0, 3, 0, 0), OUTSIDE);
        refused("way and full", Edges::full, x -> x.event(0, 0, 0, 0, 4), OUTSIDE);
        refused("no HOUSE, all", Edges::bare, x -> x.event(24, 6, 3, 0, 4), UNKNOWN);
    }

    // ---- first

    private static void dueFirst(String told, BorderThroughBed x, int event, int law) {
        due(told + ", the EVENT", x.first(0), event);
        due(told + ", the LAW", x.first(1), law);
    }

    private static void firstNone() {
        says(13, "FIRST: what = 0 the EVENT, 1 the least LAW that it is AGAINST; NONE.");
        dueFirst("no HOUSE", new BorderThroughBed(), NONE, NONE);
        dueFirst("no HOUSE, but a LAW", bare(), NONE, NONE);
        dueFirst("no EVENTS", with("|../|..", "wa0-0"), NONE, NONE);
        BorderThroughBed x = with("|../|..");
        x.event(0, 0, 0, 0, 0);
        dueFirst("no LAWS", x, NONE, NONE);
        Check.law(x, "wa1-0");
        dueFirst("AGAINST none", x, NONE, NONE);
        Check.law(x, "wa0-1");
        dueFirst("AGAINST a LAW that came later", x, 0, 1);
        Check.house(x, "|../|..");
        dueFirst("another HOUSE", x, NONE, NONE);
        dueFirst("all is full", full(), 0, 0);
        says(13, "OUTSIDE.");
        onlyBeyond("first(n)", Edges::full, (y, n) -> y.first(n), 0, 1, OUTSIDE);
        onlyBeyond("first(n), no HOUSE", Edges::bare, (y, n) -> y.first(n), 0, 1, OUTSIDE);
    }

    private static void firstOfLike() {
        says(13, "FIRST: of those that are AGAINST any LAW the one of the least hour, of like ones the "
                + "least number.");
        BorderThroughBed x = with("|../|..", "wa0-0", "wb0-0", "wb0-0");
        x.event(23, 0, 0, 0, 0);
        dueFirst("the last hour", x, 0, 0);
        x.event(22, 2, 0, 0, 0);
        dueFirst("an earlier one is AGAINST none", x, 0, 0);
        x.event(23, 1, 0, 0, 0);
        dueFirst("a like one", x, 0, 0);
        x.event(22, 1, 0, 0, 0);
        dueFirst("by an hour less", x, 3, 1);
        x.event(22, 0, 0, 0, 0);
        dueFirst("a like one again", x, 3, 1);
        x.event(0, 0, 0, 0, 0);
        dueFirst("the first hour", x, 5, 0);
        BorderThroughBed y = with("|../|..", "wb0-0", "wb0-0", "wb0-0", "wb0-0", "wb0-0", "wb0-0",
                "wb0-0", "wa0-0");
        for (int event = 0; event < 11; event++) {
            y.event(1, 2, 0, 0, 0);
        }
        y.event(1, 0, 0, 0, 0);
        dueFirst("the last EVENT, the last LAW", y, 11, 7);
    }

    private static void oneFirst(String told, int act, int posture, int cell, int way, int law) {
        BorderThroughBed x = with(".|./.|.", "wa0-0h", "ea0-0h", "ef0-0n", "wf0-0f", "eb0-0f");
        due("an EVENT", x.event(9, act, posture, cell, way), 0);
        dueFirst(told, x, law == NONE ? NONE : 0, law);
    }

    private static void firstByPostures() {
        says(13, "FIRST: what = 0 the EVENT, 1 the least LAW that it is AGAINST; NONE.");
        oneFirst("HEAD in the WEST", 0, STANDS, 0, RIGHT, 0);
        oneFirst("HEAD in the EAST", 0, STANDS, 1, LEFT, 1);
        oneFirst("HANDS in the EAST, FEET in the WEST", 5, STANDS, 0, RIGHT, 2);
        oneFirst("HANDS and FEET in the WEST", 5, STANDS, 0, DOWN, 3);
        oneFirst("HANDS and HEAD in the WEST, FEET in the EAST", 5, LIES, 0, RIGHT, NONE);
        oneFirst("all in the WEST, LIES", 5, LIES, 0, DOWN, 3);
        oneFirst("one FOOT in the EAST", 5, STRIDES, 0, RIGHT, NONE);
        oneFirst("HANDS and HEAD in the EAST", 5, LIES, 1, LEFT, 2);
        oneFirst("HANDS in the WEST, FEET in the EAST", 1, STANDS, 1, LEFT, 4);
        oneFirst("FEET in the WEST, HEAD in the EAST", 1, LIES, 1, LEFT, NONE);
        oneFirst("one FOOT in the WEST", 1, STRIDES, 3, LEFT, NONE);
        oneFirst("all in the EAST", 1, STRIDES, 3, UP, 4);
        oneFirst("an ACT without LAWS", 2, STANDS, 0, UP, NONE);
    }

    // ---- map

    private static void dueMap(String told, BorderThroughBed x, int act, int hour, int posture,
            int... maps) {
        for (int what = 0; what < 3; what++) {
            due(told + ", map of " + what, x.map(act, hour, posture, what), maps[what]);
        }
    }

    private static void mapCounts() {
        says(14, "MAP: how many OPEN CELLS: what = 0 by no WAY, 1 by some, but not all, 2 by all.");
        dueMap("no LAWS", wide(), 0, 0, 0, 24, 0, 0);
        dueMap("WALLS alone", with("##|/##|", "wa0-0"), 0, 0, 0, 0, 0, 0);
        dueMap("one that tells nothing", with("|.#/|d.", "wa0-0"), 0, 0, 0, 0, 0, 3);
        dueMap("at another hour", with("|.#/|d.", "wa0-1"), 0, 1, 0, 3, 0, 0);
        dueMap("the last hour", with("|.#/|d.", "wa23-0"), 0, 23, 0, 0, 0, 3);
        dueMap("another ACT", with("|.#/|d.", "wa0-0"), 1, 0, 0, 3, 0, 0);
        says(14, "MAP of an ACT, hour, POSTURE: of each OPEN CELL whether it is AGAINST by no WAY, by "
                + "some, by all.");
        BorderThroughBed x = with(".|./.|.", "wa0-0n", "wb0-0f", "ec0-0n", "wc0-0n");
        dueMap("by one of four, by three of four", x, 0, 0, STANDS, 0, 4, 0);
        dueMap("HANDS of one that LIES", x, 0, 0, LIES, 2, 0, 2);
        dueMap("FEET of one that LIES", x, 1, 0, LIES, 2, 2, 0);
        dueMap("FEET of one that STRIDES", x, 1, 0, STRIDES, 2, 2, 0);
        dueMap("FEET of one that STANDS", x, 1, 0, STANDS, 2, 0, 2);
        dueMap("by one LAW or by another one", x, 2, 0, STANDS, 0, 0, 4);
        BorderThroughBed y = with("|d#/|.#", "ea0-0o");
        dueMap("a DOOR is OPEN", y, 0, 0, 0, 0, 0, 2);
        dueMap("THINGS don't count", some(), 3, 8, 0, 6, 0, 5);
    }

    private static void mapRefused() {
        says(14, "STATE: no HOUSE;");
        for (int what = 0; what < 3; what++) {
            int n = what;
            refused("map of " + n, Edges::bare, x -> x.map(0, 0, 0, n), STATE);
            refused("map of " + n, BorderThroughBed::new, x -> x.map(0, 0, 0, n), STATE);
        }
        says(14, "OUTSIDE: act, hour, posture, what.");
        range("map(n, 0, 0, 0)", Edges::some, (x, n) -> x.map(n, 0, 0, 0), 0, 5, OUTSIDE);
        range("map(0, n, 0, 0)", Edges::some, (x, n) -> x.map(0, n, 0, 0), 0, 23, OUTSIDE);
        range("map(0, 0, n, 0)", Edges::some, (x, n) -> x.map(0, 0, n, 0), 0, 2, OUTSIDE);
        range("map(0, 0, 0, n)", Edges::some, (x, n) -> x.map(0, 0, 0, n), 0, 2, OUTSIDE);
        says(14, "STATE: no HOUSE; OUTSIDE: act, hour, posture, what.");
        refused("both, act", Edges::bare, x -> x.map(6, 0, 0, 0), STATE);
        refused("both, hour", Edges::bare, x -> x.map(0, -1, 0, 0), STATE);
        refused("both, posture", Edges::bare, x -> x.map(0, 0, 3, 0), STATE);
        refused("both, what", Edges::bare, x -> x.map(0, 0, 0, 3), STATE);
        refused("all", Edges::bare, x -> x.map(6, 24, 3, 3), STATE);
    }
}
