/** Promises 15 to 18 and 24: THINGS, where they are, whose they are. */
final class ThingEdges extends Edges {
    private static final int THING = 0, BED = 1, TABLE = 2, BENCH = 3;
    private static final int UP = 0, RIGHT = 1, DOWN = 2, LEFT = 3;

    static void run() {
        numbers();
        ranges();
        floorAlone();
        bedAhead();
        noTwoTogether();
        thingFull();
        thingOrder();
        casts();
        castRefused();
        about();
        aboutRefused();
        moved();
        movedInPlace();
        moveRefused();
        moveNoRoom();
        moveOrder();
        whose();
        whoseRefused();
    }

    // ---- thing

    private static void numbers() {
        says(15, "A THING: its number.");
        for (int kind = 0; kind < 4; kind++) {
            BorderThroughBed x = wide();
            for (int thing = 0; thing < 3; thing++) {
                due("KIND " + kind, x.thing(kind, 6 * thing, kind == BED ? RIGHT : 0), thing);
                due("how many", x.count(3), thing + 1);
            }
        }
        says(15, "THINGS (3 at most, numbered) are of KINDS: 0 THING, 1 BED, 2 TABLE, 3 BENCH, in a "
                + "FLOOR CELL, towards a WAY (a BED; 0 else).");
        BorderThroughBed x = some();
        x.restore();
        due("behind the IMAGE's", x.thing(TABLE, 11, 0), 1);
        due("in the last CELL", wide().thing(BENCH, 23, 0), 0);
    }

    private static void ranges() {
        says(15, "OUTSIDE: kind;");
        range("thing(n, 17, 0)", Edges::wide, (x, n) -> x.thing(n, 17, 0), 0, 3, OUTSIDE);
        onlyBeyond("thing(n, 0, 0)", Edges::some, (x, n) -> x.thing(n, 0, 0), 0, 3, OUTSIDE);
        says(15, "OUTSIDE: way (0, but of a BED 0 to 3);");
        range("thing(BED, 7, n)", Edges::wide, (x, n) -> x.thing(BED, 7, n), 0, 3, OUTSIDE);
        for (int kind : new int[] {THING, TABLE, BENCH}) {
            range("thing(" + kind + ", 7, n)", Edges::wide, (x, n) -> x.thing(kind, 7, n), 0, 0,
                    OUTSIDE);
        }
        says(15, "UNKNOWN: cell (one that is not FLOOR, too);");
        range("thing(0, n, 0) of 24", Edges::wide, (x, n) -> x.thing(THING, n, 0), 0, 23, UNKNOWN);
        onlyBeyond("thing(BED, n, 1) of 4", () -> with("|../|.."), (x, n) -> x.thing(BED, n, RIGHT),
                0, 3, UNKNOWN);
        onlyBeyond("thing(BENCH, n, 0) of 12", Edges::some, (x, n) -> x.thing(BENCH, n, 0), 0, 11,
                UNKNOWN);
        onlyBeyond("thing(0, n, 0), no HOUSE", Edges::bare, (x, n) -> x.thing(THING, n, 0), 0, -1,
                UNKNOWN);
    }

    private static void floorAlone() {
        says(15, "UNKNOWN: cell (one that is not FLOOR, too);");
        for (int kind = 0; kind < 4; kind++) {
            int k = kind;
            refused("KIND " + k + " in a WALL", Edges::some, x -> x.thing(k, 5, 0), UNKNOWN);
            refused("KIND " + k + " in a DOOR", Edges::some, x -> x.thing(k, 3, 0), UNKNOWN);
            refused("KIND " + k + ", no HOUSE", Edges::bare, x -> x.thing(k, 0, 0), UNKNOWN);
        }
    }

    private static void bedAhead() {
        says(15, "A BED has the CELL AHEAD, too (FLOOR).");
        int[][] last = {{UP, 1}, {RIGHT, 5}, {DOWN, 7}, {LEFT, 3}};
        for (int[] towards : last) {
            BorderThroughBed x = with("|.../|.../|...");
            due("a BED towards " + towards[0], x.thing(BED, 4, towards[0]), 0);
            due("its last CELL", x.about(0, 3), towards[1]);
            due("the BED is in it", x.cell(towards[1], 2), 0);
            due("the BED is in its first one", x.cell(4, 2), 0);
            due("it is nowhere else", x.cell(0, 2), NONE);
        }
        says(15, "STATE: there is no room for it;");
        for (int way = 0; way < 4; way++) {
            int w = way;
            refused("a BED towards a WALL, " + w, () -> with("|.#./|#.#/|.#."),
                    x -> x.thing(BED, 4, w), STATE);
            refused("a BED towards a DOOR, " + w, () -> with("|.d./|d.d/|.d."),
                    x -> x.thing(BED, 4, w), STATE);
        }
        noRoomAtTheBorders();
    }

    private static void noRoomAtTheBorders() {
        for (int column = 0; column < 6; column++) {
            int cell = column;
            refused("up out of the HOUSE", Edges::wide, x -> x.thing(BED, cell, UP), STATE);
            refused("down out of the HOUSE", Edges::wide, x -> x.thing(BED, 18 + cell, DOWN), STATE);
        }
        for (int row = 0; row < 4; row++) {
            int cell = 6 * row;
            refused("left out of the HOUSE", Edges::wide, x -> x.thing(BED, cell, LEFT), STATE);
            refused("right out of the HOUSE", Edges::wide, x -> x.thing(BED, cell + 5, RIGHT), STATE);
        }
    }

    private static BorderThroughBed table() {
        BorderThroughBed x = wide();
        x.thing(TABLE, 0, 0);
        return x;
    }

    private static BorderThroughBed bedAndTable() {
        BorderThroughBed x = wide();
        x.thing(BED, 7, RIGHT);
        x.thing(TABLE, 15, 0);
        return x;
    }

    private static void noTwoTogether() {
        says(15, "No two have a CELL together.");
        for (int kind : new int[] {THING, TABLE, BENCH}) {
            for (int cell : new int[] {7, 8, 15}) {
                refused(kind + " in " + cell, ThingEdges::bedAndTable, x -> x.thing(kind, cell, 0),
                        STATE);
            }
            taken(kind + " beside", ThingEdges::bedAndTable, x -> x.thing(kind, 9, 0));
            taken(kind + " in the last CELL", ThingEdges::bedAndTable, x -> x.thing(kind, 23, 0));
        }
        refused("a BED from a BED's CELL", ThingEdges::bedAndTable, x -> x.thing(BED, 7, UP), STATE);
        refused("a BED from a BED's last CELL", ThingEdges::bedAndTable, x -> x.thing(BED, 8, DOWN),
                STATE);
        refused("a BED into a BED's CELL", ThingEdges::bedAndTable, x -> x.thing(BED, 6, RIGHT),
                STATE);
        refused("a BED into a BED's last CELL", ThingEdges::bedAndTable, x -> x.thing(BED, 14, UP),
                STATE);
        refused("a BED into a TABLE", ThingEdges::bedAndTable, x -> x.thing(BED, 16, LEFT), STATE);
        refused("a BED from a TABLE", ThingEdges::bedAndTable, x -> x.thing(BED, 15, RIGHT), STATE);
        taken("a BED between", ThingEdges::bedAndTable, x -> x.thing(BED, 14, LEFT));
        refused("a BED in a BED", ThingEdges::bedAndTable, x -> x.thing(BED, 8, LEFT), STATE);
    }

    private static void thingFull() {
        says(15, "FULL.");
        refused("a fourth", Edges::full, x -> x.thing(THING, 23, 0), FULL);
        refused("a fourth, a BED", Edges::full, x -> x.thing(BED, 22, RIGHT), FULL);
        BorderThroughBed x = full();
        x.restore();
        due("a second one behind the IMAGE's", x.thing(THING, 22, 0), 1);
        due("a third one", x.thing(THING, 23, 0), 2);
        due("a fourth one", x.thing(THING, 21, 0), FULL);
    }

    private static void thingOrder() {
        says(15, "OUTSIDE: kind; UNKNOWN: cell (one that is not FLOOR, too); OUTSIDE: way (0, but of a "
                + "BED 0 to 3); STATE: there is no room for it; FULL.");
        refused("kind, cell, way, no HOUSE", Edges::bare, x -> x.thing(4, 0, 4), OUTSIDE);
        refused("kind, cell, way, full", Edges::full, x -> x.thing(-1, 24, 4), OUTSIDE);
        refused("cell, way, full", Edges::full, x -> x.thing(BED, 24, 4), UNKNOWN);
        refused("a WALL, way, full", Edges::full, x -> x.thing(BED, 7, -1), UNKNOWN);
        refused("a DOOR, a TABLE's way, full", Edges::full, x -> x.thing(TABLE, 11, 1), UNKNOWN);
        refused("cell, way, no HOUSE", Edges::bare, x -> x.thing(TABLE, 0, 1), UNKNOWN);
        refused("way, no room, full", Edges::full, x -> x.thing(TABLE, 0, 1), OUTSIDE);
        refused("a BED's way, no room, full", Edges::full, x -> x.thing(BED, 0, 4), OUTSIDE);
        refused("way, full", Edges::full, x -> x.thing(THING, 23, 3), OUTSIDE);
        refused("no room, full", Edges::full, x -> x.thing(THING, 1, 0), STATE);
        refused("no room for a BED, full", Edges::full, x -> x.thing(BED, 23, DOWN), STATE);
    }

    // ---- asThing, about

    private static BorderThroughBed ofKind(int first, int second, int third) {
        BorderThroughBed x = wide();
        int[] kinds = {first, second, third};
        for (int thing = 0; thing < 3; thing++) {
            x.thing(kinds[thing], 6 * thing, kinds[thing] == BED ? RIGHT : 0);
        }
        return x;
    }

    private static void casts() {
        says(16, "A THING taken as a KIND: its number;");
        BorderThroughBed x = ofKind(TABLE, BENCH, BED);
        int[] kinds = {TABLE, BENCH, BED};
        for (int thing = 0; thing < 3; thing++) {
            due(thing + " as its own KIND", x.asThing(thing, kinds[thing]), thing);
        }
        says(16, "All are THINGS; a BENCH is a TABLE, too.");
        for (int thing = 0; thing < 3; thing++) {
            due(thing + " as a THING", x.asThing(thing, THING), thing);
        }
        due("a BENCH as a TABLE", x.asThing(1, TABLE), 1);
        due("a mere THING as a THING", ofKind(BED, BED, THING).asThing(2, THING), 2);
        says(16, "NONE: it is none such (the cast fails).");
        due("a TABLE as a BENCH", x.asThing(0, BENCH), NONE);
        due("a TABLE as a BED", x.asThing(0, BED), NONE);
        due("a BENCH as a BED", x.asThing(1, BED), NONE);
        due("a BED as a TABLE", x.asThing(2, TABLE), NONE);
        due("a BED as a BENCH", x.asThing(2, BENCH), NONE);
        for (int kind = 1; kind < 4; kind++) {
            due("a mere THING as " + kind, ofKind(BED, THING, BED).asThing(1, kind), NONE);
        }
    }

    private static void castRefused() {
        says(16, "UNKNOWN;");
        range("asThing(n, 0) of 3", Edges::full, (x, n) -> x.asThing(n, THING), 0, 2, UNKNOWN);
        range("asThing(n, 0) of 2", Edges::some, (x, n) -> x.asThing(n, THING), 0, 1, UNKNOWN);
        onlyBeyond("asThing(n, 0) of none", Edges::wide, (x, n) -> x.asThing(n, THING), 0, -1,
                UNKNOWN);
        onlyBeyond("asThing(n, 0), no HOUSE", Edges::bare, (x, n) -> x.asThing(n, THING), 0, -1,
                UNKNOWN);
        says(16, "OUTSIDE.");
        onlyBeyond("asThing(0, n)", Edges::some, (x, n) -> x.asThing(0, n), 0, 3, OUTSIDE);
        says(16, "UNKNOWN; OUTSIDE.");
        refused("both", Edges::some, x -> x.asThing(2, 4), UNKNOWN);
        refused("both, below", Edges::full, x -> x.asThing(-1, -1), UNKNOWN);
        refused("both, no HOUSE", Edges::bare, x -> x.asThing(0, 4), UNKNOWN);
    }

    private static void dueAbout(String told, BorderThroughBed x, int thing, int... about) {
        for (int what = 0; what < 4; what++) {
            due(told + ", about(" + thing + ", " + what + ")", x.about(thing, what), about[what]);
        }
    }

    private static void about() {
        says(17, "Of a THING: what = 0 KIND, 1 CELL, 2 WAY, 3 its last CELL.");
        int[] last = {1, 8, 13, 6};
        for (int way = 0; way < 4; way++) {
            BorderThroughBed x = wide();
            x.thing(BED, 7, way);
            dueAbout("a BED", x, 0, BED, 7, way, last[way]);
        }
        BorderThroughBed x = wide();
        x.thing(THING, 0, 0);
        x.thing(TABLE, 23, 0);
        x.thing(BENCH, 18, 0);
        dueAbout("a mere THING in the first CELL", x, 0, THING, 0, 0, 0);
        dueAbout("a TABLE in the last CELL", x, 1, TABLE, 23, 0, 23);
        dueAbout("a BENCH", x, 2, BENCH, 18, 0, 18);
    }

    private static void aboutRefused() {
        says(17, "UNKNOWN;");
        range("about(n, 0) of 3", Edges::full, (x, n) -> x.about(n, 0), 0, 2, UNKNOWN);
        range("about(n, 3) of 2", Edges::some, (x, n) -> x.about(n, 3), 0, 1, UNKNOWN);
        onlyBeyond("about(n, 0) of none", Edges::wide, (x, n) -> x.about(n, 0), 0, -1, UNKNOWN);
        onlyBeyond("about(n, 0), no HOUSE", Edges::bare, (x, n) -> x.about(n, 0), 0, -1, UNKNOWN);
        says(17, "OUTSIDE.");
        range("about(0, n)", Edges::some, (x, n) -> x.about(0, n), 0, 3, OUTSIDE);
        says(17, "UNKNOWN; OUTSIDE.");
        refused("both", Edges::some, x -> x.about(2, 4), UNKNOWN);
        refused("both, below", Edges::full, x -> x.about(-1, -1), UNKNOWN);
        refused("both, no HOUSE", Edges::bare, x -> x.about(0, 4), UNKNOWN);
    }

    // ---- move

    private static void moved() {
        says(18, "A THING is set elsewhere: its PLACE ahead.");
        BorderThroughBed x = wide();
        x.thing(TABLE, 0, 0);
        x.thing(BED, 23, LEFT);
        due("the least PLACE", x.move(0, 12, 0), 0);
        due("a PLACE between", x.move(0, 6, 0), 48);
        due("the greatest PLACE", x.move(1, 2, LEFT), 95);
        due("it is there", x.cell(1, 2), 1);
        due("it is gone from where it was", x.cell(22, 2), NONE);
        due("the KIND stays", x.about(1, 0), BED);
        due("to where the other one was", x.move(0, 23, 0), 24);
        says(18, "PLACE: 4 times CELL and WAY.");
        BorderThroughBed y = wide();
        y.thing(BED, 7, UP);
        int[] ways = {RIGHT, DOWN, LEFT, UP};
        for (int way = 0; way < 4; way++) {
            due("turned to " + ways[way], y.move(0, 7, ways[way]), 28 + way);
        }
    }

    private static void movedInPlace() {
        says(18, "STATE: there is no room.");
        BorderThroughBed x = wide();
        x.thing(BED, 7, RIGHT);
        due("into its own last CELL", x.move(0, 8, RIGHT), 29);
        due("back into its own CELL", x.move(0, 7, RIGHT), 33);
        due("the other way round in its own CELLS", x.move(0, 8, LEFT), 29);
        due("to where it is", x.move(0, 8, LEFT), 35);
        due("all of it is still there", x.cell(7, 2) + x.cell(8, 2), 0);
        BorderThroughBed y = wide();
        y.thing(BENCH, 23, 0);
        due("a BENCH to where it is", y.move(0, 23, 0), 92);
    }

    private static void moveRefused() {
        says(18, "UNKNOWN: thing, cell;");
        onlyBeyond("move(n, 23, 0) of 3", Edges::full, (x, n) -> x.move(n, 23, 0), 0, 2, UNKNOWN);
        onlyBeyond("move(n, 0, 0) of 2", Edges::some, (x, n) -> x.move(n, 0, 0), 0, 1, UNKNOWN);
        onlyBeyond("move(n, 0, 0) of none", Edges::wide, (x, n) -> x.move(n, 0, 0), 0, -1, UNKNOWN);
        onlyBeyond("move(n, 0, 0), no HOUSE", Edges::bare, (x, n) -> x.move(n, 0, 0), 0, -1, UNKNOWN);
        onlyBeyond("move(1, n, 0) of 12", Edges::some, (x, n) -> x.move(1, n, 0), 0, 11, UNKNOWN);
        onlyBeyond("move(2, n, 0) of 24", Edges::full, (x, n) -> x.move(2, n, 0), 0, 23, UNKNOWN);
        range("move(0, n, 0) of 24", ThingEdges::table, (x, n) -> x.move(0, n, 0), 0, 23, UNKNOWN);
        refused("a WALL", Edges::some, x -> x.move(1, 5, 0), UNKNOWN);
        refused("a DOOR", Edges::some, x -> x.move(1, 3, 0), UNKNOWN);
        refused("a BED into a DOOR", Edges::some, x -> x.move(0, 3, LEFT), UNKNOWN);
        says(18, "OUTSIDE: way;");
        range("move(0, 9, n), a BED", () -> ofKind(BED, TABLE, THING), (x, n) -> x.move(0, 9, n), 0, 3,
                OUTSIDE);
        for (int kind : new int[] {THING, TABLE, BENCH}) {
            range("move(0, 9, n), KIND " + kind, () -> ofKind(kind, BED, BED),
                    (x, n) -> x.move(0, 9, n), 0, 0, OUTSIDE);
        }
    }

    private static void moveNoRoom() {
        says(18, "STATE: there is no room.");
        refused("into a TABLE", Edges::full, x -> x.move(2, 3, 0), STATE);
        refused("into a BED", Edges::full, x -> x.move(2, 0, 0), STATE);
        refused("into a BED's last CELL", Edges::full, x -> x.move(1, 1, 0), STATE);
        refused("a BED from a BENCH's CELL", Edges::full, x -> x.move(0, 4, RIGHT), STATE);
        refused("a BED into a BENCH's CELL", Edges::full, x -> x.move(0, 5, LEFT), STATE);
        refused("a BED turned out of the HOUSE", Edges::full, x -> x.move(0, 0, UP), STATE);
        refused("a BED turned out of the ROW", Edges::full, x -> x.move(0, 6, LEFT), STATE);
        refused("a BED out of the last ROW", Edges::full, x -> x.move(0, 23, DOWN), STATE);
        refused("a BED out of the right end", Edges::full, x -> x.move(0, 17, RIGHT), STATE);
        refused("a BED into a WALL", Edges::full, x -> x.move(0, 1, DOWN), STATE);
        refused("a BED into a DOOR", Edges::full, x -> x.move(0, 10, RIGHT), STATE);
        taken("into what is left free", Edges::full, x -> x.move(1, 23, 0));
    }

    private static void moveOrder() {
        says(18, "UNKNOWN: thing, cell; OUTSIDE: way; STATE: there is no room.");
        refused("all", Edges::full, x -> x.move(3, 24, 4), UNKNOWN);
        refused("thing, way", Edges::full, x -> x.move(-1, 23, 4), UNKNOWN);
        refused("thing, no room", Edges::full, x -> x.move(3, 0, 0), UNKNOWN);
        refused("cell, way", Edges::full, x -> x.move(0, -1, -1), UNKNOWN);
        refused("a WALL, way", Edges::full, x -> x.move(0, 7, 4), UNKNOWN);
        refused("a DOOR, a TABLE's way", Edges::full, x -> x.move(1, 11, 1), UNKNOWN);
        refused("way, no room", Edges::full, x -> x.move(1, 0, 1), OUTSIDE);
        refused("a BED's way, no room", Edges::full, x -> x.move(0, 3, 4), OUTSIDE);
        refused("no HOUSE, all", Edges::bare, x -> x.move(0, 0, 4), UNKNOWN);
    }

    // ---- whose

    private static void dueWhose(String told, BorderThroughBed x, int thing, int... sides) {
        for (int rule = 0; rule < 4; rule++) {
            due(told + ", whose(" + thing + ", " + rule + ")", x.whose(thing, rule), sides[rule]);
        }
    }

    private static BorderThroughBed bedOf(String house, int cell, int way) {
        BorderThroughBed x = with(house);
        due("the BED", x.thing(BED, cell, way), 0);
        return x;
    }

    private static void whose() {
        says(24, "WHOSE a THING is (a SIDE): by rule 0 that of its CELL, 1 of its last CELL, 2 of the "
                + "DOOR (as told, from its CELL), 3 NONE, if its CELLS are on both SIDES, else its "
                + "CELL.");
        says(24, "WHOSE.");
        dueWhose("from WEST to EAST", bedOf(".|./.|.", 0, RIGHT), 0, 0, 1, 0, NONE);
        dueWhose("from EAST to WEST", bedOf(".|./.|.", 1, LEFT), 0, 1, 0, 1, NONE);
        dueWhose("in the WEST", bedOf(".|./.|.", 2, UP), 0, 0, 0, 0, 0);
        dueWhose("in the EAST", bedOf(".|./.|.", 1, DOWN), 0, 1, 1, 1, 1);
        dueWhose("down over THE LINE", bedOf("..|/|..", 0, DOWN), 0, 0, 1, 0, NONE);
        dueWhose("up over THE LINE", bedOf("..|/|..", 3, UP), 0, 1, 0, 1, NONE);
        dueWhose("the DOOR in the EAST", bedOf("..|d/..|.", 0, DOWN), 0, 0, 0, 1, 0);
        dueWhose("the DOOR from its CELL", bedOf("d..|.d/...|..", 2, RIGHT), 0, 0, 1, 0, NONE);
        dueWhose("the DOOR from its last CELL", bedOf("d..|.d/...|..", 3, LEFT), 0, 1, 0, 1, NONE);
        dueWhose("no way to the DOOR", bedOf("..|#d/..|##", 0, RIGHT), 0, 0, 0, 0, 0);
        BorderThroughBed x = with("..|d/..|.");
        for (int thing = 0; thing < 3; thing++) {
            x.thing(new int[] {THING, TABLE, BENCH}[thing], thing + 3, 0);
        }
        dueWhose("a mere THING", x, 0, 0, 0, 1, 0);
        dueWhose("a TABLE", x, 1, 0, 0, 1, 0);
        dueWhose("a BENCH", x, 2, 1, 1, 1, 1);
    }

    private static void whoseRefused() {
        says(24, "UNKNOWN: thing;");
        range("whose(n, 0) of 3", Edges::full, (x, n) -> x.whose(n, 0), 0, 2, UNKNOWN);
        range("whose(n, 2) of 2", Edges::some, (x, n) -> x.whose(n, 2), 0, 1, UNKNOWN);
        onlyBeyond("whose(n, 0) of none", Edges::wide, (x, n) -> x.whose(n, 0), 0, -1, UNKNOWN);
        onlyBeyond("whose(n, 0), no HOUSE", Edges::bare, (x, n) -> x.whose(n, 0), 0, -1, UNKNOWN);
        says(24, "OUTSIDE: rule (0 to 3).");
        range("whose(0, n)", Edges::some, (x, n) -> x.whose(0, n), 0, 3, OUTSIDE);
        says(24, "UNKNOWN: thing; OUTSIDE: rule (0 to 3).");
        refused("both", Edges::some, x -> x.whose(2, 4), UNKNOWN);
        refused("both, below", Edges::full, x -> x.whose(-1, -1), UNKNOWN);
        refused("both, no HOUSE", Edges::bare, x -> x.whose(0, 4), UNKNOWN);
    }
}
