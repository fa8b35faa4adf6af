/** Promises 19 to 21: HABITS, which are KEPT, MOVES. */
final class HabitEdges extends Edges {
    private static final int THING = 0, BED = 1, TABLE = 2, BENCH = 3;
    private static final int UP = 0, RIGHT = 1, DOWN = 2, LEFT = 3;
    private static final String CORRIDOR = "....|../####|##";

    static void run() {
        numbers();
        habitRefused();
        keptNone();
        keptBits();
        keptByHour();
        inBed();
        inBedAlone();
        atTable();
        atTableAlone();
        besideTable();
        towardsTable();
        anywhere();
        anyWay();
        striding();
        keptAnew();
        movesNone();
        movesTold();
        movesTwelve();
        movesOrder();
        elsewhere();
        places();
        atOnce();
        likeOnes();
        likeSecondOnes();
        onesThatStay();
        notByTwo();
    }

    // ---- habit

    private static void numbers() {
        says(19, "A HABIT: its number.");
        due("the third one", some().habit(5, 23), 2);
        BorderThroughBed y = some();
        y.restore();
        due("behind the IMAGE's", y.habit(5, 23), 1);
        says(19, "HABITS (6 at most, numbered): an ACT at an hour.");
        for (BorderThroughBed x : new BorderThroughBed[] {new BorderThroughBed(), wide()}) {
            for (int habit = 0; habit < 6; habit++) {
                due("the HABIT " + habit, x.habit(0, 0), habit);
                due("how many", x.count(4), habit + 1);
            }
            due("a seventh", x.habit(0, 0), FULL);
        }
    }

    private static void habitRefused() {
        says(19, "OUTSIDE: act, hour;");
        range("habit(n, 0)", Edges::some, (x, n) -> x.habit(n, 0), 0, 5, OUTSIDE);
        range("habit(0, n)", Edges::some, (x, n) -> x.habit(0, n), 0, 23, OUTSIDE);
        range("habit(n, 23), no HOUSE", Edges::bare, (x, n) -> x.habit(n, 23), 0, 5, OUTSIDE);
        range("habit(5, n), no HOUSE", Edges::bare, (x, n) -> x.habit(5, n), 0, 23, OUTSIDE);
        says(19, "FULL.");
        refused("a seventh", Edges::full, x -> x.habit(0, 0), FULL);
        says(19, "OUTSIDE: act, hour; FULL.");
        refused("act, full", Edges::full, x -> x.habit(6, 0), OUTSIDE);
        refused("hour, full", Edges::full, x -> x.habit(0, 24), OUTSIDE);
        refused("act, hour, full", Edges::full, x -> x.habit(-1, -1), OUTSIDE);
    }

    // ---- kept

    /** Whether one HABIT is KEPT there. */
    private static void dueKept(String told, BorderThroughBed x, int act, boolean isKept) {
        due("a HABIT", x.habit(act, 0), 0);
        due(told + ", ACT " + act, x.kept(), isKept ? 1 : 0);
    }

    private static BorderThroughBed withThing(String house, int kind, int cell, int way,
            String... laws) {
        BorderThroughBed x = with(house, laws);
        due("THING " + kind + " in " + cell, x.thing(kind, cell, way), 0);
        return x;
    }

    private static void keptNone() {
        says(20, "Which HABITS are KEPT, as bits.");
        due("no HOUSE, no HABITS", new BorderThroughBed().kept(), 0);
        due("no HABITS", wide().kept(), 0);
        for (int act = 0; act < 6; act++) {
            dueKept("no HOUSE", new BorderThroughBed(), act, false);
            dueKept("WALLS alone", with("##|/##|"), act, false);
            dueKept("no THINGS, no LAWS", wide(), act, act >= 3);
            dueKept("a DOOR alone", with("##|/d#|"), act, act >= 3);
        }
    }

    private static void keptBits() {
        says(20, "Which HABITS are KEPT, as bits.");
        for (int gone = 0; gone < 6; gone++) {
            BorderThroughBed x = with("|....../|......", "w" + "abcdef".charAt(gone) + "0-0");
            x.thing(BED, 0, RIGHT);
            x.thing(BENCH, 5, 0);
            for (int act = 0; act < 6; act++) {
                x.habit(act, 0);
            }
            due("all but " + gone, x.kept(), 63 & ~(1 << gone));
        }
        BorderThroughBed x = wide();
        for (int habit = 0; habit < 6; habit++) {
            x.habit(3, habit);
            due("like ones, " + habit, x.kept(), (2 << habit) - 1);
        }
    }

    private static void keptByHour() {
        says(20, "It is KEPT, if there is somewhere where it is AGAINST no LAW:");
        BorderThroughBed x = with("|../|..", "wd5-7", "wf22-2", "we9-9");
        int[][] habits = {{3, 4}, {3, 5}, {3, 6}, {3, 7}, {4, 9}, {4, 8}};
        for (int[] habit : habits) {
            x.habit(habit[0], habit[1]);
        }
        due("from FROM until ahead of TO", x.kept(), 1 | 8);
        BorderThroughBed y = with("|../|..", "wf22-2");
        for (int hour : new int[] {21, 22, 23, 0, 1, 2}) {
            y.habit(5, hour);
        }
        due("round the clock", y.kept(), 1 | 32);
    }

    private static void inBed() {
        says(20, "a: in a BED (LIES in its CELL towards its WAY);");
        String line = ".|./.|.";
        dueKept("HEAD in the WEST", withThing(line, BED, 0, RIGHT, "wa0-0h"), 0, false);
        dueKept("HEAD in the EAST", withThing(line, BED, 1, LEFT, "wa0-0h"), 0, true);
        dueKept("FEET in the EAST", withThing(line, BED, 0, RIGHT, "wa0-0f"), 0, true);
        dueKept("FEET in the WEST", withThing(line, BED, 0, DOWN, "wa0-0f"), 0, false);
        dueKept("FEET in the WEST, up", withThing(line, BED, 2, UP, "wa0-0f"), 0, false);
        dueKept("HANDS in its CELL", withThing(line, BED, 1, LEFT, "wa0-0n"), 0, true);
        dueKept("HANDS in its CELL, WEST", withThing(line, BED, 0, RIGHT, "wa0-0n"), 0, false);
        BorderThroughBed x = withThing(line, BED, 0, DOWN, "wa0-0f");
        x.thing(BED, 3, UP);
        dueKept("in the second BED", x, 0, true);
        BorderThroughBed y = withThing(line, BED, 0, DOWN, "wa0-0h", "ea0-0h");
        y.thing(BED, 3, UP);
        dueKept("in none of two", y, 0, false);
        dueKept("in the last CELLS", withThing("...|.../#####.|/#####.|", BED, 17, UP), 0, true);
    }

    private static void inBedAlone() {
        says(20, "a: in a BED (LIES in its CELL towards its WAY);");
        for (int kind : new int[] {THING, TABLE, BENCH}) {
            dueKept("KIND " + kind, withThing("|../|..", kind, 0, 0), 0, false);
        }
    }

    private static void atTable() {
        says(20, "b: at a TABLE, c: at a BENCH (STANDS in an OPEN CELL without a THING beside one of "
                + "its CELLS, towards it);");
        boolean[][] is = {{false, false}, {false, false}, {true, false}, {true, true}};
        for (int kind = 0; kind < 4; kind++) {
            int way = kind == BED ? RIGHT : 0;
            dueKept("KIND " + kind, withThing("|..../|####", kind, 0, way), 1, is[kind][0]);
            dueKept("KIND " + kind, withThing("|..../|####", kind, 0, way), 2, is[kind][1]);
        }
        BorderThroughBed x = withThing("|..../|####", TABLE, 0, 0);
        x.thing(BENCH, 3, 0);
        dueKept("a TABLE, and a BENCH", x, 2, true);
    }

    /** A TABLE in the middle, and nothing but one other CELL. */
    private static void besideTable() {
        says(20, "(STANDS in an OPEN CELL without a THING beside one of its CELLS, towards it);");
        for (int cell = 0; cell < 9; cell++) {
            for (char letter : new char[] {'.', 'd'}) {
                StringBuilder cells = new StringBuilder("####.####");
                cells.setCharAt(cell, letter);
                cells.insert(6, "/|").insert(3, "/|").insert(0, "|");
                boolean isBeside = cell % 2 == 1;
                if (cell != 4) {
                    dueKept(cells + "", withThing(cells + "", TABLE, 4, 0), 1, isBeside);
                    dueKept(cells + "", withThing(cells + "", BENCH, 4, 0), 2, isBeside);
                }
            }
        }
        dueKept("behind a ROW's end", withThing("|##./|.##", TABLE, 3, 0), 1, false);
        dueKept("ahead of a ROW's beginning", withThing("|##./|.##", TABLE, 2, 0), 1, false);
        dueKept("in the last CELL", withThing("|##/|##/|##/|..", TABLE, 7, 0), 1, true);
    }

    private static void atTableAlone() {
        says(20, "STANDS in an OPEN CELL without a THING");
        for (int kind : new int[] {THING, TABLE, BENCH}) {
            BorderThroughBed x = withThing("|..#/|###", TABLE, 0, 0);
            x.thing(kind, 1, 0);
            dueKept("KIND " + kind + " is beside", x, 1, false);
        }
        BorderThroughBed first = withThing("|.../|###", TABLE, 0, 0);
        first.thing(BED, 1, RIGHT);
        dueKept("a BED is beside", first, 1, false);
        BorderThroughBed last = withThing("|.../|###", TABLE, 0, 0);
        last.thing(BED, 2, LEFT);
        dueKept("a BED's last CELL is beside", last, 1, false);
        BorderThroughBed other = withThing("|..../|####", TABLE, 0, 0);
        other.thing(THING, 2, 0);
        dueKept("a THING is farther away", other, 1, true);
    }

    private static void towardsTable() {
        says(20, "towards it);");
        String line = ".|./#|#";
        dueKept("HANDS in the WEST", withThing(line, TABLE, 0, 0, "eb0-0n"), 1, true);
        dueKept("HANDS in the EAST", withThing(line, TABLE, 1, 0, "eb0-0n"), 1, false);
        dueKept("HEAD in the EAST", withThing(line, TABLE, 0, 0, "eb0-0h"), 1, false);
        dueKept("HEAD in the WEST", withThing(line, TABLE, 1, 0, "eb0-0h"), 1, true);
        dueKept("FEET in the WEST", withThing(line, TABLE, 1, 0, "wb0-0f"), 1, false);
        dueKept("FEET in the EAST", withThing(line, TABLE, 0, 0, "wb0-0f"), 1, true);
        dueKept("at a BENCH, HANDS", withThing(line, BENCH, 0, 0, "ec0-0n"), 2, true);
        dueKept("at a BENCH, HANDS in the EAST", withThing(line, BENCH, 1, 0, "ec0-0n"), 2, false);
        dueKept("at a BENCH, FEET", withThing(line, BENCH, 1, 0, "wc0-0f"), 2, false);
        dueKept("no other WAY", withThing("..|./##|#", BENCH, 2, 0, "ec0-0n"), 2, false);
        dueKept("another ACT's LAW", withThing(line, BENCH, 1, 0, "ec0-0n"), 1, true);
    }

    private static void anywhere() {
        says(20, "d, f: in any OPEN CELL without a THING, towards any WAY (STANDS);");
        for (int act : new int[] {3, 4, 5}) {
            for (int cell = 0; cell < 24; cell++) {
                StringBuilder cells = new StringBuilder("#".repeat(24));
                cells.setCharAt(cell, cell % 2 == 0 ? '.' : 'd');
                cells.insert(18, "/|").insert(12, "/|").insert(6, "/|").insert(0, "|");
                dueKept("in CELL " + cell + " alone", with(cells + ""), act, true);
                if (cell % 2 == 0) {
                    dueKept("a THING in CELL " + cell, withThing(cells + "", THING, cell, 0), act,
                            false);
                }
            }
            dueKept("a BED in both CELLS", withThing("|..#/|###", BED, 1, LEFT), act, false);
            dueKept("beside a BED", withThing("|.../|###", BED, 1, LEFT), act, true);
        }
    }

    /** The one WAY that is AGAINST no LAW: from one SIDE with the HANDS on the other one. */
    private static void anyWay() {
        says(20, "towards any WAY (STANDS);");
        for (char act : new char[] {'d', 'f'}) {
            String[] fromEast = {"w" + act + "0-0h", "e" + act + "0-0n"};
            String[] fromWest = {"e" + act + "0-0h", "w" + act + "0-0n"};
            dueKept("left", with(".|./#|#", fromEast), act - 'a', true);
            dueKept("right", with(".|./#|#", fromWest), act - 'a', true);
            dueKept("up", with(".#|/|.#", fromEast), act - 'a', true);
            dueKept("down", with(".#|/|.#", fromWest), act - 'a', true);
            dueKept("no such WAY", with(".#|/|#.", fromWest), act - 'a', false);
            dueKept("a THING is there", withThing(".|./#|#", THING, 1, 0, fromEast), act - 'a', false);
            dueKept("the HANDS are at a THING", withThing(".|./#|#", THING, 0, 0, fromEast), act - 'a',
                    true);
        }
    }

    private static void striding() {
        says(20, "e likewise (STRIDES).");
        String[] hands = {"we0-0h", "ee0-0n"};
        dueKept("the HANDS are in its CELL", with(".|./#|#", hands), 4, false);
        String[] fromEast = {"we0-0h", "ee0-0f"};
        String[] fromWest = {"ee0-0h", "we0-0f"};
        dueKept("left", with(".|./#|#", fromEast), 4, true);
        dueKept("right", with(".|./#|#", fromWest), 4, true);
        dueKept("up", with(".#|/|.#", fromEast), 4, true);
        dueKept("down", with(".#|/|.#", fromWest), 4, true);
        dueKept("no such WAY", with(".#|/|#.", fromWest), 4, false);
        dueKept("a THING is there", withThing(".|./#|#", THING, 1, 0, fromEast), 4, false);
        dueKept("the FOOT is at a THING", withThing(".|./#|#", THING, 0, 0, fromEast), 4, true);
    }

    private static void keptAnew() {
        says(20, "It is KEPT, if there is somewhere where it is AGAINST no LAW:");
        for (int act = 0; act < 6; act++) {
            for (int house = 0; house < 2; house++) {
                BorderThroughBed x = withThing("|.../|...", BED, 0, RIGHT);
                x.thing(BENCH, 5, 0);
                dueKept("ahead of the LAW", x, act, true);
                Check.law(x, "e" + "abcdef".charAt(act) + "1-2");
                due("another hour's LAW", x.kept(), 1);
                if (house == 0) {
                    Check.law(x, "e" + "abcdef".charAt(act) + "0-1");
                    due("behind the LAW, ACT " + act, x.kept(), 0);
                } else {
                    read(x, "##|/##|");
                    dueKept("in another HOUSE", x, act, false);
                }
            }
        }
        BorderThroughBed y = wide();
        y.image();
        dueKept("ahead of restore()", y, 3, true);
        y.restore();
        due("no HABITS any more", y.kept(), 0);
        dueKept("another HABIT", y, 0, false);
    }

    // ---- moves

    private static void dueMoves(String told, BorderThroughBed x, int... moves) {
        for (int what = 0; what < 5; what++) {
            due(told + ", moves(" + what + ")", x.moves(what), moves[what]);
        }
    }

    private static void movesNone() {
        says(21, "MOVES: what = 0 how many (NONE: not by two), 1, 3 the THINGS moved, 2, 4 their PLACES "
                + "(NONE: none).");
        dueMoves("no HABITS", wide(), 0, NONE, NONE, NONE, NONE);
        BorderThroughBed x = wide();
        x.habit(3, 0);
        dueMoves("KEPT without THINGS", x, 0, NONE, NONE, NONE, NONE);
        x.habit(0, 0);
        dueMoves("no THINGS", x, NONE, NONE, NONE, NONE, NONE);
        BorderThroughBed y = with("##|/##|");
        dueMoves("WALLS alone, no HABITS", y, 0, NONE, NONE, NONE, NONE);
        y.habit(5, 0);
        dueMoves("WALLS alone", y, NONE, NONE, NONE, NONE, NONE);
    }

    private static void movesTold() {
        says(21, "OUTSIDE;");
        range("moves(n)", Edges::some, (x, n) -> x.moves(n), 0, 4, OUTSIDE);
        says(21, "STATE: no HOUSE;");
        for (int what = 0; what < 5; what++) {
            int n = what;
            refused("moves(" + n + ")", BorderThroughBed::new, x -> x.moves(n), STATE);
            refused("moves(" + n + ")", Edges::bare, x -> x.moves(n), STATE);
        }
    }

    private static void movesTwelve() {
        says(21, "STATE: moves() was done 12 times ever (it counts on, whatever is read or restored).");
        for (int what = 0; what < 5; what++) {
            int n = what;
            refused("a thirteenth, moves(" + n + ")", Edges::full, x -> x.moves(n), STATE);
        }
        BorderThroughBed x = with("|../|..");
        due("refused ones are not done", x.moves(5) + x.moves(-1), OUTSIDE + OUTSIDE);
        due("none was done", x.count(8), 0);
        x.image();
        for (int done = 1; done <= 12; done++) {
            due("the moves() " + done, x.moves(done % 5), done % 5 == 0 ? 0 : NONE);
            due("how often", x.count(8), done);
            if (done % 2 == 0) {
                read(x, "|../|..");
                x.image();
            } else {
                due("restored", x.restore(), 0);
            }
        }
        due("a thirteenth", x.moves(0), STATE);
        x.restore();
        due("a thirteenth behind restore()", x.moves(0), STATE);
        read(x, "|../|../|..");
        due("a thirteenth of another HOUSE", x.moves(0), STATE);
        due("how often", x.count(8), 12);
        due("another object", with("|../|..").moves(0), 0);
    }

    private static void movesOrder() {
        says(21, "STATE: no HOUSE; OUTSIDE; STATE: moves() was done 12 times ever (it counts on, "
                + "whatever is read or restored).");
        onlyBeyond("moves(n), no HOUSE", Edges::bare, (x, n) -> x.moves(n), 0, -1, STATE);
        onlyBeyond("moves(n), 12 times", Edges::full, (x, n) -> x.moves(n), 0, 4, OUTSIDE);
    }

    /** A corridor; a BENCH is wanted where HEAD and HANDS are in the EAST: in 4 and 5. */
    private static BorderThroughBed bench(String house, int... things) {
        BorderThroughBed x = with(house, "wc0-0h", "wc0-0n");
        for (int i = 0; i < things.length; i += 2) {
            int way = things[i] == BED ? RIGHT : 0;
            due("a THING", x.thing(things[i], things[i + 1], way), i / 2);
        }
        due("a HABIT", x.habit(2, 0), 0);
        due("it is not KEPT", x.kept(), 0);
        return x;
    }

    private static void elsewhere() {
        says(21, "MOVES: the fewest THINGS (two at most) that are set elsewhere (another CELL or WAY, "
                + "all at once) so that all HABITS are KEPT;");
        dueMoves("another CELL", bench(CORRIDOR, BENCH, 0), 1, 0, 16, NONE, NONE);
        BorderThroughBed turned = withThing(".|./.|.", BED, 0, DOWN, "wa0-0f");
        turned.habit(0, 0);
        dueMoves("another WAY", turned, 1, 0, 1, NONE, NONE);
        due("nothing is moved", turned.about(0, 2), DOWN);
        BorderThroughBed already = withThing(".|./.|.", BED, 0, RIGHT, "wa0-0f");
        already.habit(0, 0);
        dueMoves("none, though one would do", already, 0, NONE, NONE, NONE, NONE);
        dueMoves("one, though two would do", bench(CORRIDOR, BED, 3, BENCH, 5), 1, 0, 1, NONE, NONE);
    }

    private static void places() {
        says(21, "PLACE: 4 times CELL and WAY.");
        BorderThroughBed least = withThing("|######/|######/|######/.####|.", THING, 23, 0, "wf0-0h");
        least.habit(5, 0);
        dueMoves("a THING in the last ROW", least, 1, 0, 72, NONE, NONE);
        BorderThroughBed first = withThing(".#####|/######|/######|/#####|.", THING, 23, 0, "wf0-0h");
        first.habit(5, 0);
        dueMoves("the least PLACE", first, 1, 0, 0, NONE, NONE);
        BorderThroughBed last = withThing("|.#####/######|/######|/#####.|", THING, 0, 0, "wf0-0h");
        last.habit(5, 0);
        dueMoves("the greatest PLACE of a THING", last, 1, 0, 92, NONE, NONE);
        BorderThroughBed bed = withThing("######|/######|/######|/####.|.", BED, 22, RIGHT, "wa0-0h");
        bed.habit(0, 0);
        dueMoves("the greatest PLACE of a BED", bed, 1, 0, 95, NONE, NONE);
        says(21, "THINGS (3 at most, numbered) are of KINDS: 0 THING, 1 BED, 2 TABLE, 3 BENCH, in a "
                + "FLOOR CELL, towards a WAY (a BED; 0 else).");
        dueMoves("no BENCH in a DOOR", bench("..|d../##|###", BENCH, 0), 1, 0, 12, NONE, NONE);
        dueMoves("no BENCH in a WALL", bench("..|#../##|###", BENCH, 0), 1, 0, 12, NONE, NONE);
        BorderThroughBed door = withThing("..|d../##|###", BED, 0, RIGHT, "wa0-0h");
        door.habit(0, 0);
        dueMoves("no BED into a DOOR", door, 1, 0, 13, NONE, NONE);
        BorderThroughBed up = withThing("######|/######|/#####.|/#####|.", BED, 17, DOWN, "wa0-0h");
        up.habit(0, 0);
        dueMoves("a BED towards 0", up, 1, 0, 92, NONE, NONE);
    }

    private static void atOnce() {
        says(21, "all at once)");
        dueMoves("each to where the other one was", bench(".|../#|##", THING, 1, BENCH, 0), 2, 0, 0, 1,
                4);
        dueMoves("the first one to where the second one was", bench(CORRIDOR, BED, 3, BENCH, 0), 2, 0,
                1, 1, 16);
        dueMoves("the second one to where the first one was", bench(CORRIDOR, BENCH, 0, BED, 3), 2, 0,
                16, 1, 1);
    }

    private static void likeOnes() {
        says(21, "Of like ones by the first one that is moved (the least number), its PLACE,");
        BorderThroughBed x = with(CORRIDOR, "wd0-0h");
        x.thing(BED, 3, RIGHT);
        x.thing(THING, 5, 0);
        x.habit(3, 0);
        dueMoves("the least number, though its PLACE is greater", x, 1, 0, 1, NONE, NONE);
        BorderThroughBed y = with(CORRIDOR, "wd0-0h");
        y.thing(THING, 5, 0);
        y.thing(BED, 3, RIGHT);
        y.habit(3, 0);
        dueMoves("the least number", y, 1, 0, 0, NONE, NONE);
        dueMoves("the least CELL of two", bench(CORRIDOR, BENCH, 1), 1, 0, 16, NONE, NONE);
        BorderThroughBed ways = withThing("...|/...|/|...", BED, 1, LEFT, "wa0-0f");
        ways.habit(0, 0);
        dueMoves("the least WAY", ways, 1, 0, 14, NONE, NONE);
    }

    private static void likeSecondOnes() {
        says(21, "its PLACE, then the second one, its PLACE, each the least.");
        dueMoves("the first one's PLACE ahead of the second one's number",
                bench(CORRIDOR, BED, 3, BENCH, 0, BENCH, 1), 2, 0, 5, 2, 16);
        dueMoves("the first one's PLACE", bench(CORRIDOR, BED, 3, BENCH, 1, BENCH, 0), 2, 0, 5, 1, 16);
        dueMoves("the second one's number", bench("....|../...#|##", BED, 3, BENCH, 7, BENCH, 6), 2, 0,
                1, 1, 16);
        dueMoves("the second and the third one", bench(CORRIDOR, THING, 0, BED, 3, BENCH, 1), 2, 1, 5,
                2, 16);
        dueMoves("the first and the third one", bench(CORRIDOR, BED, 3, THING, 0, BENCH, 1), 2, 0, 5, 2,
                16);
    }

    private static void onesThatStay() {
        says(21, "so that all HABITS are KEPT;");
        BorderThroughBed x = with("..|./##|#", "wd0-0h");
        x.thing(THING, 1, 0);
        x.thing(BENCH, 0, 0);
        x.habit(3, 0);
        x.habit(2, 0);
        due("the first one alone", x.kept(), 1);
        dueMoves("not the second one alone", x, 2, 0, 0, 1, 4);
        BorderThroughBed y = with("....|../.###|#.", "wc0-0h", "wc0-0n", "eb0-0h", "eb0-0n");
        y.thing(TABLE, 6, 0);
        y.thing(BED, 5, DOWN);
        y.thing(BENCH, 1, 0);
        y.habit(2, 0);
        y.habit(1, 0);
        due("the second one alone", y.kept(), 2);
        dueMoves("the TABLE stays where it is", y, 2, 1, 5, 2, 16);
        BorderThroughBed z = with("....|../.###|#.", "wc0-0h", "wc0-0n", "eb0-0h", "eb0-0n",
                "ed0-0h");
        z.thing(TABLE, 6, 0);
        z.thing(BED, 5, DOWN);
        z.thing(BENCH, 1, 0);
        for (int act : new int[] {2, 1, 3}) {
            z.habit(act, 0);
        }
        due("all but the first one", z.kept(), 6);
        dueMoves("three HABITS", z, 2, 1, 5, 2, 16);
    }

    private static void notByTwo() {
        says(21, "(NONE: not by two)");
        dueMoves("three would do", bench(CORRIDOR, BED, 3, THING, 5, BENCH, 0), NONE, NONE, NONE, NONE,
                NONE);
        dueMoves("no number would do", bench(".|./##|", BENCH, 0), NONE, NONE, NONE, NONE, NONE);
    }
}
