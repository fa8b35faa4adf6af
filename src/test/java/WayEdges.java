/** Promises 22, 23 and 25 to 28: STEPS, CHEAPEST, DUTY, THE LINE drawn anew, JUDGMENTS. */
final class WayEdges extends Edges {
    private static final int RIGHT = 1, LEFT = 3;

    static void run() {
        stepsAround();
        stepsPastThings();
        stepsRefused();
        tolls();
        cheapestWays();
        cheapestPastThings();
        cheapestRefused();
        dutyRanges();
        dutyRounded();
        dutyWalks();
        dutyEverywhere();
        drawnBy();
        drawnBits();
        drawnRefused();
        judgmentNumbers();
        judgmentRefused();
        fitsBy();
        fitsAll();
    }

    // ---- steps

    private static void dueSteps(BorderThroughBed x, int from, int to, int steps) {
        due("steps(" + from + ", " + to + ")", x.steps(from, to), steps);
        due("steps(" + to + ", " + from + ")", x.steps(to, from), steps);
    }

    private static void stepsAround() {
        says(22, "STEPS; NONE: there is no way.");
        BorderThroughBed x = wide();
        for (int cell = 0; cell < 24; cell++) {
            dueSteps(x, 0, cell, cell / 6 + cell % 6);
            dueSteps(x, 23, cell, 3 - cell / 6 + 5 - cell % 6);
        }
        BorderThroughBed snake = with("d.#...|/#.#.#.|/#.#.#.|/#...#.|");
        dueSteps(snake, 0, 23, 14);
        dueSteps(snake, 1, 3, 8);
        dueSteps(with("|..#/|#../|..#"), 0, 6, 4);
        dueSteps(with("|.d./|###"), 0, 2, 2);
        dueSteps(with("|.#./|###"), 0, 2, NONE);
        dueSteps(with("|.#/|#."), 0, 3, NONE);
        dueSteps(with("|##./|.##"), 2, 3, NONE);
        dueSteps(with("|.##/|###/|##."), 0, 8, NONE);
        dueSteps(with("|.#/|##"), 0, 0, 0);
        dueSteps(with("|##/|#d"), 3, 3, 0);
    }

    private static void stepsPastThings() {
        says(22, "STEPS from one CELL to another one: the fewest over OPEN CELLS without THINGS (the "
                + "first and the last one may have some).");
        BorderThroughBed x = with("|..../|####");
        x.thing(0, 1, 0);
        dueSteps(x, 0, 3, NONE);
        dueSteps(x, 0, 2, NONE);
        dueSteps(x, 0, 1, 1);
        dueSteps(x, 1, 3, 2);
        dueSteps(x, 1, 1, 0);
        dueSteps(x, 2, 3, 1);
        x.thing(0, 2, 0);
        dueSteps(x, 1, 2, 1);
        dueSteps(x, 1, 3, NONE);
        BorderThroughBed bed = with("|..../|....");
        bed.thing(1, 1, RIGHT);
        dueSteps(bed, 0, 3, 5);
        dueSteps(bed, 1, 2, 1);
        dueSteps(bed, 0, 2, 4);
        dueSteps(bed, 2, 3, 1);
        bed.thing(0, 5, 0);
        dueSteps(bed, 0, 3, NONE);
        dueSteps(bed, 0, 2, NONE);
        dueSteps(bed, 5, 3, 3);
        bed.move(0, 3, LEFT);
        dueSteps(bed, 0, 6, NONE);
        dueSteps(bed, 0, 2, 2);
        dueSteps(bed, 7, 3, 1);
        dueSteps(some(), 8, 9, 1);
        dueSteps(some(), 4, 10, 5);
        dueSteps(some(), 3, 7, 1);
    }

    private static void stepsRefused() {
        says(22, "UNKNOWN: from, to (CELLS that are not OPEN, too).");
        range("steps(n, 0) of 24", Edges::wide, (x, n) -> x.steps(n, 0), 0, 23, UNKNOWN);
        range("steps(0, n) of 24", Edges::wide, (x, n) -> x.steps(0, n), 0, 23, UNKNOWN);
        onlyBeyond("steps(n, 0) of 12", Edges::some, (x, n) -> x.steps(n, 0), 0, 11, UNKNOWN);
        onlyBeyond("steps(0, n) of 12", Edges::some, (x, n) -> x.steps(0, n), 0, 11, UNKNOWN);
        onlyBeyond("steps(n, n) of 12", Edges::some, (x, n) -> x.steps(n, n), 0, 11, UNKNOWN);
        onlyBeyond("steps(n, n), no HOUSE", Edges::bare, (x, n) -> x.steps(n, n), 0, -1, UNKNOWN);
        refused("from a WALL", Edges::some, x -> x.steps(5, 0), UNKNOWN);
        refused("to a WALL", Edges::some, x -> x.steps(0, 5), UNKNOWN);
        refused("from a WALL to itself", Edges::some, x -> x.steps(5, 5), UNKNOWN);
        taken("from a DOOR", Edges::some, x -> x.steps(3, 0));
        taken("to a DOOR", Edges::some, x -> x.steps(0, 3));
    }

    // ---- cheapest

    private static void tolls() {
        says(23, "CHEAPEST way from one CELL to another one with a TOLL (0 to 9): STEPS, and TOLL for "
                + "each that goes from SIDE to SIDE, together least");
        for (int toll = 0; toll <= 9; toll++) {
            due("to itself", wide().cheapest(3, 3, toll), 0);
            due("on one SIDE", wide().cheapest(0, 20, toll), 5);
            due("to EAST", wide().cheapest(2, 3, toll), 1 + toll);
            due("to WEST", wide().cheapest(23, 18, toll), 5 + toll);
            due("down", with("..|/|..").cheapest(0, 2, toll), 1 + toll);
            due("up", with("..|/|..").cheapest(3, 1, toll), 1 + toll);
            due("to EAST and back", with("|.#/.|#/|.#").cheapest(0, 4, toll), 2 + 2 * toll);
            due("three times", with("|.#/.|#/|.#/.|#").cheapest(0, 6, toll), 3 + 3 * toll);
            due("up three times", with("|.#/.|#/|.#/.|#").cheapest(6, 0, toll), 3 + 3 * toll);
        }
    }

    private static void cheapestWays() {
        says(23, "together least");
        for (int toll = 0; toll <= 9; toll++) {
            due("round about for 2 more", with("|../.|./|..").cheapest(0, 4, toll),
                    Math.min(2 + 2 * toll, 4));
            due("round about for 4 more", with("|.../..|./|...").cheapest(0, 6, toll),
                    Math.min(2 + 2 * toll, 6));
            due("round about for 8 more", with("|...../....|./|.....").cheapest(0, 10, toll),
                    Math.min(2 + 2 * toll, 10));
            due("round about for 10 more", with("|....../.....|./|......").cheapest(0, 12, toll),
                    Math.min(2 + 2 * toll, 12));
            due("no other way", with("|.....#/.....|#/|......").cheapest(0, 12, toll), 2 + 2 * toll);
            due("as dear as can be", with("d.#.|../#|.#.#./#.#|.#./#...#.|").cheapest(23, 0, toll),
                    14 + 6 * toll);
        }
        says(23, "CHEAPEST: what it costs; NONE: there is no way.");
        due("no way", with("|.#./|###").cheapest(0, 2, 0), NONE);
        due("no way with a TOLL", with(".|#./#|##").cheapest(0, 2, 9), NONE);
        due("no way over a corner", with(".|#/#|.").cheapest(0, 3, 0), NONE);
    }

    private static void cheapestPastThings() {
        says(23, "(no THINGS but in the first and the last one)");
        BorderThroughBed x = with("..|../##|##");
        x.thing(0, 1, 0);
        due("a THING between", x.cheapest(0, 3, 1), NONE);
        due("to a THING", x.cheapest(0, 1, 1), 1);
        due("from a THING", x.cheapest(1, 3, 1), 3);
        due("from a THING to itself", x.cheapest(1, 1, 9), 0);
        BorderThroughBed y = with("|../.|./|..");
        y.thing(0, 2, 0);
        due("round about a THING", y.cheapest(0, 4, 0), 4);
        y.thing(1, 3, 0);
        due("no way but over THINGS", y.cheapest(0, 4, 0), NONE);
        due("from a BED's last CELL to its CELL", y.cheapest(1, 3, 9), 1);
    }

    private static void cheapestRefused() {
        says(23, "UNKNOWN: from, to (CELLS that are not OPEN, too);");
        range("cheapest(n, 0, 9) of 24", Edges::wide, (x, n) -> x.cheapest(n, 0, 9), 0, 23, UNKNOWN);
        range("cheapest(0, n, 9) of 24", Edges::wide, (x, n) -> x.cheapest(0, n, 9), 0, 23, UNKNOWN);
        onlyBeyond("cheapest(n, 0, 0) of 12", Edges::some, (x, n) -> x.cheapest(n, 0, 0), 0, 11,
                UNKNOWN);
        onlyBeyond("cheapest(0, n, 0) of 12", Edges::some, (x, n) -> x.cheapest(0, n, 0), 0, 11,
                UNKNOWN);
        onlyBeyond("cheapest(n, n, 0), no HOUSE", Edges::bare, (x, n) -> x.cheapest(n, n, 0), 0, -1,
                UNKNOWN);
        refused("from a WALL", Edges::some, x -> x.cheapest(5, 0, 0), UNKNOWN);
        refused("to a WALL", Edges::some, x -> x.cheapest(0, 5, 0), UNKNOWN);
        refused("from a WALL to itself", Edges::some, x -> x.cheapest(5, 5, 0), UNKNOWN);
        due("from a DOOR to FLOOR", some().cheapest(3, 1, 5), 7);
        due("from FLOOR to a DOOR", some().cheapest(1, 3, 5), 7);
        due("from a DOOR to a DOOR", with("dd|/#.|").cheapest(1, 0, 9), 1);
        due("from a DOOR to itself", some().cheapest(3, 3, 9), 0);
        says(23, "OUTSIDE: toll.");
        range("cheapest(0, 1, n)", Edges::some, (x, n) -> x.cheapest(0, 1, n), 0, 9, OUTSIDE);
        range("cheapest(0, 0, n)", Edges::some, (x, n) -> x.cheapest(0, 0, n), 0, 9, OUTSIDE);
        says(23, "UNKNOWN: from, to (CELLS that are not OPEN, too); OUTSIDE: toll.");
        refused("from, toll", Edges::some, x -> x.cheapest(12, 0, 10), UNKNOWN);
        refused("to, toll", Edges::some, x -> x.cheapest(0, -1, -1), UNKNOWN);
        refused("from a WALL, toll", Edges::some, x -> x.cheapest(5, 0, 10), UNKNOWN);
        refused("to a WALL, toll", Edges::some, x -> x.cheapest(0, 5, 10), UNKNOWN);
        refused("no HOUSE, toll", Edges::bare, x -> x.cheapest(0, 0, 10), UNKNOWN);
        onlyBeyond("no way, cheapest(0, 3, n)", () -> with("|.#/|#."), (x, n) -> x.cheapest(0, 3, n),
                0, 9, OUTSIDE);
    }

    // ---- duty

    private static void dutyRanges() {
        says(25, "OUTSIDE: value, free, tenths, walk, what.");
        Start[] starts = {Edges::some, BorderThroughBed::new};
        for (Start start : starts) {
            range("duty(n, 0, 0, 0, 0)", start, (x, n) -> x.duty(n, 0, 0, 0, 0), 0, 999, OUTSIDE);
            range("duty(0, n, 0, 0, 0)", start, (x, n) -> x.duty(0, n, 0, 0, 0), 0, 99, OUTSIDE);
            range("duty(0, 0, n, 0, 0)", start, (x, n) -> x.duty(0, 0, n, 0, 0), 0, 10, OUTSIDE);
            range("duty(0, 0, 0, n, 0)", start, (x, n) -> x.duty(0, 0, 0, n, 0), 0, 99, OUTSIDE);
            range("duty(0, 0, 0, 0, n)", start, (x, n) -> x.duty(0, 0, 0, 0, n), 0, 1, OUTSIDE);
        }
        refused("all", Edges::bare, x -> x.duty(1000, 100, 11, 100, 2), OUTSIDE);
        refused("all, below", Edges::bare, x -> x.duty(-1, -1, -1, -1, -1), OUTSIDE);
    }

    private static void dueDuty(int value, int free, int tenths, int walk, int walks, int cost) {
        String call = "duty(" + value + ", " + free + ", " + tenths + ", " + walk + ", ";
        due(call + "0)", new BorderThroughBed().duty(value, free, tenths, walk, 0), walks);
        due(call + "1)", new BorderThroughBed().duty(value, free, tenths, walk, 1), cost);
    }

    private static void dutyRounded() {
        says(25, "WALK each, and TENTHS tenths (rounded up) of what VALUE is above FREE each;");
        for (int rest = 0; rest <= 20; rest++) {
            for (int tenths = 0; tenths <= 10; tenths++) {
                int duty = tenths * rest / 10 + (tenths * rest % 10 == 0 ? 0 : 1);
                dueDuty(rest, 0, tenths, 99, 1, 99 + duty);
            }
        }
        dueDuty(999, 0, 10, 99, 1, 99 + 999);
        dueDuty(999, 0, 1, 0, 1, 100);
        dueDuty(991, 0, 1, 0, 1, 100);
        dueDuty(990, 0, 1, 0, 1, 99);
        dueDuty(999, 0, 0, 99, 1, 99);
        dueDuty(5, 99, 10, 7, 1, 7);
        dueDuty(99, 99, 10, 7, 1, 7);
        dueDuty(100, 99, 10, 7, 1, 8);
        dueDuty(0, 0, 0, 0, 1, 0);
        dueDuty(0, 99, 10, 99, 1, 99);
    }

    private static void dutyWalks() {
        says(25, "DUTY: what = 0 how many walks, 1 what it costs.");
        dueDuty(999, 99, 10, 98, 10, 989);
        dueDuty(999, 99, 10, 0, 11, 0);
        says(25, "of 1 to 20 walks those by which it is least:");
        dueDuty(999, 49, 10, 0, 20, 19);
        dueDuty(999, 50, 10, 0, 20, 0);
        dueDuty(999, 1, 10, 0, 20, 979);
        dueDuty(980, 49, 10, 0, 20, 0);
        dueDuty(981, 49, 10, 0, 20, 1);
        dueDuty(979, 49, 10, 0, 20, 0);
        dueDuty(931, 49, 10, 0, 19, 0);
        dueDuty(932, 49, 10, 0, 20, 0);
        dueDuty(99, 99, 10, 0, 1, 0);
        dueDuty(198, 99, 10, 98, 2, 196);
        dueDuty(200, 99, 10, 98, 2, 198);
        says(25, "of like ones the fewest.");
        dueDuty(200, 10, 10, 10, 1, 200);
        dueDuty(200, 10, 10, 9, 20, 180);
        dueDuty(200, 10, 10, 11, 1, 201);
        dueDuty(999, 99, 10, 99, 1, 999);
        dueDuty(20, 10, 1, 1, 1, 2);
        dueDuty(999, 50, 0, 0, 1, 0);
    }

    private static void dutyEverywhere() {
        says(25, "DUTY of a VALUE (0 to 999), FREE each walk (0 to 99), TENTHS (0 to 10) of the rest, "
                + "WALK what each walk costs (0 to 99):");
        int[] values = {0, 1, 9, 10, 11, 98, 99, 100, 101, 198, 500, 998, 999};
        int[] frees = {0, 1, 2, 24, 49, 50, 51, 98, 99};
        int[] walks = {0, 1, 2, 9, 10, 49, 98, 99};
        for (int value : values) {
            for (int free : frees) {
                for (int tenths = 0; tenths <= 10; tenths++) {
                    for (int walk : walks) {
                        dueLeastDuty(value, free, tenths, walk);
                    }
                }
            }
        }
    }

    private static void dueLeastDuty(int value, int free, int tenths, int walk) {
        int best = 0;
        int least = Integer.MAX_VALUE;
        for (int walks = 20; walks >= 1; walks--) {
            int above = value > walks * free ? value - walks * free : 0;
            int cost = walks * walk - Math.floorDiv(-tenths * above, 10);
            if (cost <= least) {
                least = cost;
                best = walks;
            }
        }
        dueDuty(value, free, tenths, walk, best, least);
    }

    // ---- drawn

    private static int within(int width, int line) {
        return line < 0 ? 0 : Math.min(line, width);
    }

    private static void drawnBy() {
        says(26, "DRAWN anew by (-3 to 3): THE LINE in each ROW so many CELLS further to the right (0 "
                + "and how many CELLS a ROW has at most): which EVENTS would be AGAINST then, as bits.");
        for (int width = 2; width <= 6; width++) {
            for (int line = 0; line <= width; line++) {
                String house = rowWith(width, line) + "/" + rowWith(width, width - line);
                BorderThroughBed west = eventsOf(house, "wa0-0h", width);
                BorderThroughBed east = eventsOf(house, "ea0-0h", width);
                for (int by = -3; by <= 3; by++) {
                    int first = (1 << within(width, line + by)) - 1;
                    int second = (1 << within(width, width - line + by)) - 1;
                    int bits = first | second << width;
                    due(house + ", WEST by " + by, west.drawn(by), bits);
                    due(house + ", EAST by " + by, east.drawn(by), (1 << 2 * width) - 1 & ~bits);
                }
                due(house + ", it is not drawn", west.cell(0, 1), line > 0 ? 0 : 1);
            }
        }
    }

    /** An EVENT in each CELL of two ROWS. */
    private static BorderThroughBed eventsOf(String house, String law, int width) {
        BorderThroughBed x = with(house, law);
        for (int cell = 0; cell < 2 * width; cell++) {
            due("an EVENT", x.event(0, 0, 0, cell, 0), cell);
        }
        return x;
    }

    private static void drawnBits() {
        says(26, "DRAWN anew: EVENTS that would be AGAINST, as bits.");
        for (int by = -3; by <= 3; by++) {
            due("no EVENTS", with("|../|..", "wa0-0").drawn(by), 0);
            due("no LAW of that ACT", eventsOf("|....../|......", "wf0-0", 6).drawn(by), 0);
            due("a LAW that tells nothing", eventsOf("|....../|......", "wa0-0", 6).drawn(by), 4095);
            due("all is full", full().drawn(by), 511);
        }
        BorderThroughBed hands = with("..|./##|#", "wa0-0n", "eb0-0f");
        hands.event(0, 0, 0, 1, RIGHT);
        hands.event(0, 1, 1, 1, RIGHT);
        hands.event(0, 1, 1, 1, LEFT);
        int[] bits = {4 | 2, 4 | 2, 2, 0, 1, 1, 1};
        for (int by = -3; by <= 3; by++) {
            due("HANDS and FEET, by " + by, hands.drawn(by), bits[by + 3]);
        }
        BorderThroughBed lies = with("..|./##|#", "ea0-0n");
        for (int posture = 0; posture < 3; posture++) {
            lies.event(0, 0, posture, 1, RIGHT);
        }
        int[] reached = {7, 7, 7, 1, 0, 0, 0};
        for (int by = -3; by <= 3; by++) {
            due("HANDS of each POSTURE, by " + by, lies.drawn(by), reached[by + 3]);
        }
        BorderThroughBed door = with("d..|/...|", "wa0-0o", "eb0-0o");
        door.event(0, 0, 0, 5, 0);
        door.event(0, 1, 0, 5, 0);
        for (int by = -3; by <= 3; by++) {
            due("the DOOR, by " + by, door.drawn(by), by == -3 ? 2 : 1);
        }
    }

    private static void drawnRefused() {
        says(26, "STATE: no HOUSE;");
        for (int by = -3; by <= 3; by++) {
            int n = by;
            refused("drawn(" + n + ")", BorderThroughBed::new, x -> x.drawn(n), STATE);
            refused("drawn(" + n + ")", Edges::bare, x -> x.drawn(n), STATE);
        }
        says(26, "OUTSIDE: by.");
        range("drawn(n)", Edges::some, (x, n) -> x.drawn(n), -3, 3, OUTSIDE);
        says(26, "STATE: no HOUSE; OUTSIDE: by.");
        onlyBeyond("drawn(n), no HOUSE", Edges::bare, (x, n) -> x.drawn(n), -3, 3, STATE);
    }

    // ---- judgment, fits

    private static void judgmentNumbers() {
        says(27, "A JUDGMENT: how many.");
        due("the third one", some().judgment(11, 1), 3);
        due("of a WALL", some().judgment(5, 0), 3);
        due("of a DOOR", some().judgment(3, 0), 3);
        says(27, "JUDGMENTS (10 at most): a CELL was on a SIDE.");
        BorderThroughBed x = wide();
        for (int judgment = 1; judgment <= 10; judgment++) {
            due("the JUDGMENT " + judgment, x.judgment(0, 0), judgment);
            due("how many", x.count(5), judgment);
        }
        due("an eleventh", x.judgment(0, 0), FULL);
    }

    private static void judgmentRefused() {
        says(27, "UNKNOWN: cell;");
        range("judgment(n, 0) of 24", Edges::wide, (x, n) -> x.judgment(n, 0), 0, 23, UNKNOWN);
        range("judgment(n, 1) of 12", Edges::some, (x, n) -> x.judgment(n, 1), 0, 11, UNKNOWN);
        onlyBeyond("judgment(n, 0), no HOUSE", Edges::bare, (x, n) -> x.judgment(n, 0), 0, -1, UNKNOWN);
        says(27, "OUTSIDE: side;");
        range("judgment(0, n)", Edges::some, (x, n) -> x.judgment(0, n), 0, 1, OUTSIDE);
        says(27, "FULL.");
        refused("an eleventh", Edges::full, x -> x.judgment(0, 0), FULL);
        says(27, "UNKNOWN: cell; OUTSIDE: side; FULL.");
        refused("all", Edges::full, x -> x.judgment(24, 2), UNKNOWN);
        refused("cell, full", Edges::full, x -> x.judgment(-1, 0), UNKNOWN);
        refused("cell, side", Edges::some, x -> x.judgment(12, -1), UNKNOWN);
        refused("side, full", Edges::full, x -> x.judgment(0, 2), OUTSIDE);
        refused("side below, full", Edges::full, x -> x.judgment(0, -1), OUTSIDE);
        refused("no HOUSE, side", Edges::bare, x -> x.judgment(0, 2), UNKNOWN);
    }

    /** What THE LINE tells when it is drawn by so many fits where it is drawn to the same place. */
    private static void fitsBy() {
        says(28, "FITS, as bits: -3 (bit 0) to 3 (bit 6) by which all JUDGMENTS are so.");
        for (int width = 2; width <= 6; width++) {
            for (int line = 0; line <= width; line++) {
                for (int by = -3; by <= 3; by++) {
                    BorderThroughBed x = with(rowWith(width, line) + "/" + rowWith(width, 0));
                    int drawn = within(width, line + by);
                    int bits = 0;
                    for (int other = -3; other <= 3; other++) {
                        bits |= within(width, line + other) == drawn ? 1 << other + 3 : 0;
                    }
                    for (int cell = 0; cell < width; cell++) {
                        due("a JUDGMENT", x.judgment(cell, cell < drawn ? 0 : 1), cell + 1);
                    }
                    due(width + " CELLS, THE LINE at " + line + ", by " + by, x.fits(), bits);
                }
            }
        }
    }

    private static void fitsAll() {
        says(28, "FITS, as bits.");
        due("no JUDGMENTS", wide().fits(), 127);
        for (int judgments = 1; judgments <= 10; judgments++) {
            BorderThroughBed x = wide();
            for (int i = 1; i < judgments; i++) {
                x.judgment(2, 0);
            }
            due("like ones, but for one", x.fits(), judgments == 1 ? 127 : 0b1111000);
            x.judgment(2, 1);
            due("the last one is not so", x.fits(), judgments == 1 ? 0b0000111 : 0);
        }
        BorderThroughBed y = with("...|.../.|.....");
        y.judgment(3, 0);
        due("by 1 to 3", y.fits(), 0b1110000);
        y.judgment(8, 1);
        due("by 1", y.fits(), 0b0010000);
        says(28, "STATE: no HOUSE.");
        refused("no HOUSE", Edges::bare, x -> x.fits(), STATE);
        refused("a new object", BorderThroughBed::new, x -> x.fits(), STATE);
    }
}
