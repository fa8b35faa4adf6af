import java.util.ArrayList;
import java.util.Collections;
import java.util.HashSet;
import java.util.List;
import java.util.Set;

/** Promises 4, 5, 9: the text of a HOUSE, its CELLS. */
final class HouseEdges extends Edges {
    private static final int LEAST_ROWS = 2, MOST_ROWS = 4, LEAST_WIDTH = 2, MOST_WIDTH = 6;

    static void run() {
        rows();
        width();
        allAsMany();
        line();
        letters();
        faultSort();
        faultPlace();
        everyHouse();
        houseReplaces();
        houseIsAsNew();
        houseRefused();
        numbers();
        side();
        cellWhat();
        cellUnknown();
        cellDoor();
    }

    private static String joined(int rows, String row) {
        return String.join("/", Collections.nCopies(rows, row));
    }

    private static void isHouse(String text, int cells) {
        BorderThroughBed x = paged(text);
        due(text, x.house(), cells);
        due(text + ", the page", x.count(6), 0);
        due(text + ", the CELLS", x.count(0), cells);
        due(text + " had no fault", paged(text).fault(0), text.length());
    }

    private static void isNone(String text) {
        BorderThroughBed x = paged(text);
        due(text, x.house(), STATE);
        due(text + " leaves all as it was", x.digest(), pageDigest(text));
    }

    private static void rows() {
        says(5, "THE HOUSE is a text: two to four ROWS with \"/\" between,");
        isNone("");
        isNone("/");
        isNone("|..");
        for (int rows = LEAST_ROWS; rows <= MOST_ROWS; rows++) {
            String text = joined(rows, "|..");
            isHouse(text, 2 * rows);
            isNone("/" + text);
            isNone(text + "/");
            isNone(text.replaceFirst("/", "//"));
            isNone(text.replaceFirst("/", ""));
        }
        isNone(joined(5, "|.."));
        isNone(joined(10, "|..") + ".");
        isHouse(joined(MOST_ROWS, rowWith(MOST_WIDTH, 0)), 24);
    }

    private static void width() {
        says(5, "each of two to six CELLS (all as many)");
        for (int rows = LEAST_ROWS; rows <= MOST_ROWS; rows++) {
            for (int width = LEAST_WIDTH; width <= MOST_WIDTH; width++) {
                isHouse(joined(rows, rowWith(width, 1)), rows * width);
            }
            isNone(joined(rows, "|"));
            isNone(joined(rows, ".|"));
            isNone(joined(rows, rowWith(7, 1)));
        }
        isNone(joined(2, rowWith(18, 6)));
    }

    private static void allAsMany() {
        says(5, "each of two to six CELLS (all as many)");
        for (int rows = LEAST_ROWS; rows <= MOST_ROWS; rows++) {
            for (int other = 0; other < rows; other++) {
                String[] few = joined(rows, rowWith(4, 2)).split("/");
                few[other] = rowWith(3, 2);
                isNone(String.join("/", few));
                few[other] = rowWith(5, 2);
                isNone(String.join("/", few));
            }
        }
        isNone("|../|....");
        isNone("|..../|..");
    }

    private static void line() {
        says(5, "and one \"|\" ahead of, between or behind them (THE LINE of that ROW):");
        for (int width = LEAST_WIDTH; width <= MOST_WIDTH; width++) {
            for (int line = 0; line <= width; line++) {
                String row = rowWith(width, line);
                isHouse(row + "/" + rowWith(width, width - line), 2 * width);
                isNone(row + "/" + ".".repeat(width));
                isNone(".".repeat(width) + "/" + row);
                for (int second = 0; second <= row.length(); second++) {
                    String two = row.substring(0, second) + "|" + row.substring(second);
                    isNone(row + "/" + two);
                    isNone(two + "/" + row);
                }
            }
        }
    }

    private static void letters() {
        says(5, "\".\" FLOOR, \"#\" a WALL, \"d\" a DOOR.");
        for (char letter = 1; letter <= 126; letter++) {
            String text = "|." + letter + "./|...";
            if (".#d".indexOf(letter) < 0) {
                isNone(text);
            } else {
                BorderThroughBed x = paged(text);
                due(text, x.house(), 6);
                due(text + ", the CELL", x.cell(1, 0), ".#d".indexOf(letter));
            }
        }
    }

    // ---- fault

    private static void faultSort() {
        says(4, "OUTSIDE.");
        range("fault(n)", Edges::some, (x, n) -> x.fault(n), 0, 1, OUTSIDE);
        range("fault(n) of an empty page", BorderThroughBed::new, (x, n) -> x.fault(n), 0, 1,
                OUTSIDE);
        range("fault(n) of a full page", Edges::full, (x, n) -> x.fault(n), 0, 1, OUTSIDE);
    }

    private static void faultPlace() {
        says(4, "The place (from 0) of the first letter of THE PAGE that no HOUSE (sort 0), LAW (1) "
                + "has there, behind those ahead of it; how many letters it has, if there is none.");
        due("empty, HOUSE", paged("").fault(0), 0);
        due("empty, LAW", paged("").fault(1), 0);
        due("the first letter, HOUSE", paged("w../").fault(0), 0);
        due("the first letter, LAW", paged("|a1-2").fault(1), 0);
        due("the last letter, HOUSE", paged("|../|.x").fault(0), 6);
        due("the last letter, LAW", paged("wa1-2x").fault(1), 5);
        due("the first of two, HOUSE", paged("|x.x/").fault(0), 1);
        due("the first of two, LAW", paged("wx1x").fault(1), 1);
        due("behind a whole HOUSE", paged("|../|..x").fault(0), 7);
        due("behind a whole LAW", paged("wa1-2hx").fault(1), 6);
        due("none, though it is no whole HOUSE", paged("|../|.").fault(0), 6);
        due("none, though it is no whole LAW", paged("wa1-").fault(1), 4);
        due("a full page, HOUSE", full().fault(0), 0);
        due("a full page, LAW", full().fault(1), 0);
        String longest = joined(MOST_ROWS, rowWith(MOST_WIDTH, MOST_WIDTH));
        due("behind the longest HOUSE", paged(longest + "/" + "q".repeat(8)).fault(0), 31);
        due("behind the longest LAW", paged("wa23-23f" + "q".repeat(32)).fault(1), 8);
        BorderThroughBed x = paged("|.|");
        x.fault(0);
        x.fault(1);
        due("the page stays", x.digest(), pageDigest("|.|"));
    }

    /** Every text of a HOUSE of FLOOR alone, and whatever such a text begins with. */
    private static void everyHouse() {
        says(4, "The place (from 0) of the first letter of THE PAGE that no HOUSE (sort 0), LAW (1) "
                + "has there, behind those ahead of it; how many letters it has, if there is none.");
        Set<String> houses = new HashSet<>();
        for (int width = LEAST_WIDTH; width <= MOST_WIDTH; width++) {
            addHouses(houses, width);
        }
        Set<String> starts = new HashSet<>();
        for (String house : houses) {
            for (int end = 0; end <= house.length(); end++) {
                starts.add(house.substring(0, end));
            }
        }
        for (String start : starts) {
            due("is a HOUSE: " + start, paged(start).house() > 0 ? 1 : 0,
                    houses.contains(start) ? 1 : 0);
            for (char letter : "./|#dx".toCharArray()) {
                String shape = start + ("#d".indexOf(letter) >= 0 ? '.' : letter);
                due("fault: " + start + letter, paged(start + letter).fault(0),
                        starts.contains(shape) ? shape.length() : start.length());
            }
        }
    }

    private static void addHouses(Set<String> houses, int width) {
        List<String> soFar = List.of("");
        for (int row = 1; row <= MOST_ROWS; row++) {
            List<String> longer = new ArrayList<>();
            for (String text : soFar) {
                for (int line = 0; line <= width; line++) {
                    longer.add(text + (row == 1 ? "" : "/") + rowWith(width, line));
                }
            }
            if (row >= LEAST_ROWS) {
                houses.addAll(longer);
            }
            soFar = longer;
        }
    }

    // ---- house

    private static void houseReplaces() {
        says(5, "THE PAGE is read as THE HOUSE (another one is gone, with THINGS, EVENTS, HABITS, "
                + "JUDGMENTS): how many CELLS;");
        for (Start start : new Start[] {Edges::some, Edges::full, Edges::bare}) {
            BorderThroughBed x = start.make();
            int laws = x.count(1);
            int houses = x.count(7);
            int moved = x.count(8);
            Check.page(x, "..|/|..");
            due("the CELLS", x.house(), 4);
            int[] counts = {4, laws, 0, 0, 0, 0, 0, houses + 1, moved};
            for (int what = 0; what <= 8; what++) {
                due("count(" + what + ")", x.count(what), counts[what]);
            }
            due("the IMAGE is gone", x.restore(), STATE);
            due("the fifth CELL is gone", x.cell(4, 0), UNKNOWN);
            due("no THING is in its CELL", x.cell(0, 2), NONE);
        }
        says(5, "THE PAGE is empty then.");
        BorderThroughBed x = some();
        read(x, "|../|..");
        due("letters", x.count(6), 0);
        due("letters begin anew", x.letters('a'), 1);
    }

    private static void houseIsAsNew() {
        says(5, "(another one is gone");
        String[] houses = {"|....../|....../|....../|......", "d|#/.|.", "#|#/##|", "..|d../....|./d|.#..",
            "|dd/dd|"};
        for (String before : houses) {
            for (String text : houses) {
                BorderThroughBed x = with(before);
                read(x, text);
                BorderThroughBed y = with(text);
                for (int cell = 0; cell < 24; cell++) {
                    for (int what = 0; what < 4; what++) {
                        due(text + " behind " + before + ", cell(" + cell + ", " + what + ")",
                                x.cell(cell, what), y.cell(cell, what));
                    }
                    due(text + " behind " + before + ", steps to " + cell, x.steps(0, cell),
                            y.steps(0, cell));
                }
            }
        }
    }

    private static void houseRefused() {
        says(5, "STATE: it is none.");
        refused("an empty page", () -> someWith(""), x -> x.house(), STATE);
        refused("no HOUSE yet, an empty page", BorderThroughBed::new, x -> x.house(), STATE);
        refused("a LAW", () -> someWith("wa1-2"), x -> x.house(), STATE);
        refused("a letter less", () -> someWith("|../|."), x -> x.house(), STATE);
        refused("a letter more", () -> someWith("|../|..."), x -> x.house(), STATE);
        refused("a blank ahead", () -> someWith(" |../|.."), x -> x.house(), STATE);
        refused("a full page", Edges::full, x -> x.house(), STATE);
    }

    // ---- cells

    private static void numbers() {
        says(9, "CELLS are numbered row by row.");
        for (int rows = LEAST_ROWS; rows <= MOST_ROWS; rows++) {
            for (int width = LEAST_WIDTH; width <= MOST_WIDTH; width++) {
                for (int door = 0; door < rows * width; door++) {
                    oneDoor(rows, width, door);
                }
            }
        }
        says(9, "OPEN: FLOOR and DOORS.");
        BorderThroughBed x = with("|.#/|d.");
        due("FLOOR", x.steps(0, 0), 0);
        due("a WALL", x.steps(1, 1), UNKNOWN);
        due("a DOOR", x.steps(2, 2), 0);
    }

    private static void oneDoor(int rows, int width, int door) {
        StringBuilder text = new StringBuilder(joined(rows, ".".repeat(width)));
        text.setCharAt(door + door / width, 'd');
        BorderThroughBed x = with("|" + text.toString().replace("/", "/|"));
        for (int cell = 0; cell < rows * width; cell++) {
            due(text + ", cell(" + cell + ", 0)", x.cell(cell, 0), cell == door ? 2 : 0);
        }
        due(text + ", behind the last one", x.cell(rows * width, 0), UNKNOWN);
    }

    private static void side() {
        says(9, "SIDE of a CELL: 0 WEST (ahead of THE LINE in its ROW), 1 EAST.");
        for (int width = LEAST_WIDTH; width <= MOST_WIDTH; width++) {
            for (int line = 0; line <= width; line++) {
                String text = rowWith(width, line) + "/" + rowWith(width, width - line);
                BorderThroughBed x = with(text);
                for (int column = 0; column < width; column++) {
                    due(text + ", the first ROW, " + column, x.cell(column, 1),
                            column < line ? 0 : 1);
                    due(text + ", the second ROW, " + column, x.cell(width + column, 1),
                            column < width - line ? 0 : 1);
                }
            }
        }
    }

    private static void cellWhat() {
        says(9, "OUTSIDE.");
        range("cell(0, n)", Edges::some, (x, n) -> x.cell(0, n), 0, 3, OUTSIDE);
        range("cell(5, n), a WALL", Edges::some, (x, n) -> x.cell(5, n), 0, 3, OUTSIDE);
        says(9, "Of a CELL: what = 0 FLOOR (0), WALL (1), DOOR (2), 1 SIDE, 2 the THING there (NONE), "
                + "3 the DOOR that is nearest (NONE; of a WALL, too).");
        int[][] told = {{0, 0, NONE, 3}, {2, 1, NONE, 3}, {1, 0, NONE, NONE}, {0, 1, 1, 3},
            {0, 0, 0, 3}, {0, 0, 0, 3}};
        int[] cells = {0, 3, 5, 7, 8, 9};
        for (int i = 0; i < cells.length; i++) {
            for (int what = 0; what < 4; what++) {
                due("cell(" + cells[i] + ", " + what + ")", some().cell(cells[i], what),
                        told[i][what]);
            }
        }
        BorderThroughBed x = full();
        due("the last of three THINGS", x.cell(4, 2), 2);
        due("no THING in the last CELL", x.cell(23, 2), NONE);
    }

    private static void cellUnknown() {
        says(9, "UNKNOWN (without a HOUSE, too);");
        range("cell(n, 0) of 24", Edges::wide, (x, n) -> x.cell(n, 0), 0, 23, UNKNOWN);
        range("cell(n, 3) of 24", Edges::full, (x, n) -> x.cell(n, 3), 0, 23, UNKNOWN);
        range("cell(n, 2) of 12", Edges::some, (x, n) -> x.cell(n, 2), 0, 11, UNKNOWN);
        range("cell(n, 1) of 4", () -> with("|../|.."), (x, n) -> x.cell(n, 1), 0, 3, UNKNOWN);
        range("cell(n, 1) of WALLS", () -> with("##|/#|#"), (x, n) -> x.cell(n, 1), 0, 3, UNKNOWN);
        for (Start start : new Start[] {Edges::bare, BorderThroughBed::new}) {
            refused("without a HOUSE", start, x -> x.cell(0, 0), UNKNOWN);
            onlyBeyond("without a HOUSE, cell(n, 0)", start, (x, n) -> x.cell(n, 0), 0, 0, UNKNOWN);
        }
        says(9, "UNKNOWN (without a HOUSE, too); OUTSIDE.");
        refused("both", Edges::some, x -> x.cell(12, 4), UNKNOWN);
        refused("both, far", Edges::some, x -> x.cell(Integer.MIN_VALUE, Integer.MIN_VALUE), UNKNOWN);
        refused("both, without a HOUSE", Edges::bare, x -> x.cell(0, -1), UNKNOWN);
    }

    private static void dueDoors(String house, int... doors) {
        BorderThroughBed x = with(house);
        for (int cell = 0; cell < doors.length; cell++) {
            due(house + ", cell(" + cell + ", 3)", x.cell(cell, 3), doors[cell]);
        }
    }

    private static void cellDoor() {
        says(9, "3 the DOOR that is nearest (NONE; of a WALL, too).");
        dueDoors("|../|..", NONE, NONE, NONE, NONE);
        dueDoors("|.#/|#d", NONE, NONE, NONE, 3);
        dueDoors("|##/##|", NONE, NONE, NONE, NONE);
        dueDoors("|dd/|dd", 0, 1, 2, 3);
        dueDoors("|d./|.#", 0, 0, 0, NONE);
        dueDoors("|.#d/.|../d.|.", 6, NONE, 2, 6, 2, 2, 6, 6, 2);
        says(9, "the DOOR that is nearest by STEPS without THINGS from its own CELL, of like ones the "
                + "least;");
        dueDoors("|d.d/|...", 0, 0, 2, 0, 0, 2);
        dueDoors("|.../|d.d", 3, 3, 5, 3, 3, 5);
        dueDoors("|.d/|d.", 1, 1, 2, 1);
        dueDoors("|.d..d./|......", 1, 1, 1, 4, 4, 4, 1, 1, 1, 4, 4, 4);
        dueDoors(".d..|d./....|..", 1, 1, 1, 4, 4, 4, 1, 1, 1, 4, 4, 4);
        dueDoors("d|.../|#..d", 0, 0, 0, 7, NONE, 0, 7, 7);
        dueDoors("|d../...|/|d..", 0, 0, 0, 0, 0, 0, 6, 6, 6);
        dueDoors("|#d./...|/d..|", NONE, 1, 1, 6, 1, 1, 6, 6, 6);
        BorderThroughBed x = with("|..d/|##./|d..");
        due("ahead of the THING", x.cell(0, 3), 2);
        x.thing(0, 1, 0);
        due("with a THING on the way", x.cell(0, 3), 2);
        x.thing(0, 0, 0);
        due("with a THING in the CELL itself", x.cell(0, 3), 2);
        BorderThroughBed y = with("|d..../|####.");
        due("the farthest but one", y.cell(4, 3), 0);
        due("the farthest", y.cell(9, 3), 0);
        dueDoors("|.....d/|.#####/|....../|#####.", 5, 5, 5, 5, 5, 5, 5);
        BorderThroughBed z = with("d.#...|/#.#.#.|/#.#.#.|/#...#.|");
        due("fourteen steps away", z.cell(23, 3), 0);
    }
}
