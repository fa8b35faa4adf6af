/** Promises 2 to 9: texts, THE HOUSE, LAWS. */
public final class TextsTest {
    private static final int NONE = -1, UNKNOWN = -101, OUTSIDE = -102, STATE = -103, FULL = -104;
    private static final Check CHECK = new Check("TextsTest");

    private static void due(String call, long got, long want) {
        CHECK.due(call, got, want);
    }

    public static void main(String[] args) {
        letters();
        lettersFull();
        blank();
        faultOfHouse();
        faultOfLaw();
        house();
        law();
        lawTold();
        asLaw();
        cell();
        cellsDoor();
        CHECK.end();
    }

    private static void letters() {
        BorderThroughBed x = new BorderThroughBed();
        due("2: nothing", x.letters(0L), 0);
        due("2: one", x.letters('a'), 1);
        due("2: eight", x.letters(Check.word("abcdefgh")), 9);
        due("2: code 126", x.letters(126L), 10);
        due("2: code 127", x.letters(127L), OUTSIDE);
        due("2: code 1", x.letters(1L), 11);
        due("2: code 255 as the eighth", x.letters(0xff61616161616161L), OUTSIDE);
        due("2: code 128 behind another", x.letters(0x8061L), OUTSIDE);
        due("2: behind a 0", x.letters(0x610061L), OUTSIDE);
        due("2: behind a 0 first", x.letters(0x6100L), OUTSIDE);
        due("2: refusals change nothing", x.count(6), 11);
        BorderThroughBed y = new BorderThroughBed();
        y.letters(Check.word("ab"));
        long h = 521L;
        h = 31 * h;
        h = 31 * h + 'a';
        h = 31 * h + 'b';
        for (int what = 0; what < 9; what++) {
            h = 31 * h + (what == 6 ? 2 : 0);
        }
        due("2: the lowest byte is the first letter", y.digest(), h);
    }

    private static void lettersFull() {
        BorderThroughBed x = new BorderThroughBed();
        for (int i = 1; i <= 4; i++) {
            due("2: " + i, x.letters(Check.word("........")), 8 * i);
        }
        due("2: 33", x.letters(Check.word(".")), 33);
        due("2: 41", x.letters(Check.word("........")), FULL);
        due("2: OUTSIDE ahead of FULL", x.letters(0x7f2e2e2e2e2e2e2eL), OUTSIDE);
        due("2: FULL changes nothing", x.count(6), 33);
        due("2: 40", x.letters(Check.word(".......")), 40);
        due("2: none of 40", x.letters(0L), 40);
        due("2: 41 again", x.letters('.'), FULL);
    }

    private static void blank() {
        BorderThroughBed x = new BorderThroughBed();
        due("3: empty", x.blank(), 0);
        x.letters(Check.word("abc"));
        due("3: three", x.blank(), 3);
        due("3: gone", x.count(6), 0);
        due("3: once more", x.blank(), 0);
    }

    private static void faultOfHouse() {
        BorderThroughBed x = new BorderThroughBed();
        due("4: empty", x.fault(0), 0);
        due("4: sort 2", x.fault(2), OUTSIDE);
        due("4: sort -1", x.fault(-1), OUTSIDE);
        due("4: one cell", Check.fault(x, 0, "|./"), 2);
        due("4: no line", Check.fault(x, 0, "../"), 2);
        due("4: two lines", Check.fault(x, 0, ".|.|"), 3);
        due("4: slash first", Check.fault(x, 0, "/"), 0);
        due("4: seven cells", Check.fault(x, 0, "|......."), 7);
        due("4: six cells, then the line", Check.fault(x, 0, "......|/"), 8);
        due("4: too few in the second row", Check.fault(x, 0, "|.../../"), 7);
        due("4: too many in the second row", Check.fault(x, 0, "|../..."), 6);
        due("4: line at the end of the second row", Check.fault(x, 0, "|../..|"), 7);
        due("4: no line in the second row", Check.fault(x, 0, "|../../"), 6);
        due("4: a fifth row", Check.fault(x, 0, "|../|../|../|../"), 15);
        due("4: behind a whole house", Check.fault(x, 0, "|../|..|"), 7);
        due("4: another letter", Check.fault(x, 0, "|.x/"), 2);
        due("4: a space", Check.fault(x, 0, " |../"), 0);
        due("4: all sorts of cells", Check.fault(x, 0, "#|d/.|#"), 7);
        due("4: the page stays", x.count(6), 7);
    }

    private static void faultOfLaw() {
        BorderThroughBed x = new BorderThroughBed();
        due("4: empty", x.fault(1), 0);
        due("4: whole", Check.fault(x, 1, "wa0-23o"), 7);
        due("4: not whole", Check.fault(x, 1, "wa0-"), 4);
        due("4: side", Check.fault(x, 1, "xa0-1"), 0);
        due("4: act", Check.fault(x, 1, "wg0-1"), 1);
        due("4: no hour", Check.fault(x, 1, "wa-1"), 2);
        due("4: 24", Check.fault(x, 1, "wa24-1"), 3);
        due("4: 0 ahead", Check.fault(x, 1, "wa07-1"), 3);
        due("4: 30", Check.fault(x, 1, "wa30-1"), 3);
        due("4: three digits", Check.fault(x, 1, "wa123-1"), 4);
        due("4: 19", Check.fault(x, 1, "wa19-20"), 7);
        due("4: to 24", Check.fault(x, 1, "wa1-24"), 5);
        due("4: to with a 0 ahead", Check.fault(x, 1, "wa1-00"), 5);
        due("4: to without digits", Check.fault(x, 1, "wa1-h"), 4);
        due("4: two dashes", Check.fault(x, 1, "wa1--"), 4);
        due("4: what counts", Check.fault(x, 1, "wa1-2g"), 5);
        due("4: behind what counts", Check.fault(x, 1, "wa1-2hh"), 6);
        due("4: a digit behind what counts", Check.fault(x, 1, "wa1-2h3"), 6);
    }

    private static void house() {
        BorderThroughBed x = new BorderThroughBed();
        due("5: empty page", x.house(), STATE);
        due("5: one row", Check.house(x, "|.."), STATE);
        due("5: the page stays", x.count(6), 3);
        due("5: the last row is short", Check.house(x, "|.../.|."), STATE);
        due("5: the last row has no line", Check.house(x, "|../.."), STATE);
        due("5: a slash at the end", Check.house(x, "|../|../"), STATE);
        due("5: not read", x.count(7), 0);
        due("5: the least", Check.house(x, "..|/|.."), 4);
        due("5: the page is empty", x.count(6), 0);
        due("5: read", x.count(7), 1);
        Check.law(x, "wa0-0");
        x.event(1, 0, 0, 0, 0);
        x.habit(0, 0);
        x.judgment(0, 0);
        x.thing(0, 0, 0);
        due("5: STATE changes nothing", Check.house(x, "|../.."), STATE);
        due("5: cells", x.count(0), 4);
        due("5: things", x.count(3), 1);
        due("5: the largest", Check.house(x, "......|/|....../...|.../..|...."), 24);
        due("5: laws stay", x.count(1), 1);
        due("5: no events", x.count(2), 0);
        due("5: no things", x.count(3), 0);
        due("5: no habits", x.count(4), 0);
        due("5: no judgments", x.count(5), 0);
        due("5: read twice", x.count(7), 2);
        due("5: walls alone", Check.house(x, "##|/##|"), 4);
        due("5: the cells of another one are gone", x.cell(4, 0), UNKNOWN);
    }

    private static void law() {
        BorderThroughBed x = new BorderThroughBed();
        due("6: empty page", x.law(), STATE);
        due("6: no hour", Check.law(x, "wa1-"), STATE);
        due("6: the page stays", x.count(6), 4);
        due("6: first", Check.law(x, "wa1-2"), 0);
        due("6: the page is empty", x.count(6), 0);
        for (int law = 1; law < 8; law++) {
            due("6: law " + law, Check.law(x, "ef23-0o"), law);
        }
        due("6: ninth, but none", Check.law(x, "ef23-0oo"), STATE);
        due("6: ninth", Check.law(x, "ef23-0o"), FULL);
        due("6: FULL changes nothing", x.count(6), 7);
        due("6: eight", x.count(1), 8);
    }

    private static void lawTold() {
        BorderThroughBed x = new BorderThroughBed();
        due("7: none", x.lawTold(0, 0), UNKNOWN);
        Check.law(x, "ef23-0o");
        Check.law(x, "wb4-15");
        int[][] told = {{1, 5, 23, 0, 4}, {0, 1, 4, 15, 0}};
        for (int law = 0; law < 2; law++) {
            for (int what = 0; what < 5; what++) {
                due("7: " + law + ", " + what, x.lawTold(law, what), told[law][what]);
            }
        }
        Check.law(x, "wa9-9h");
        Check.law(x, "wa9-9n");
        Check.law(x, "wa9-9f");
        due("7: head", x.lawTold(2, 4), 1);
        due("7: hands", x.lawTold(3, 4), 2);
        due("7: feet", x.lawTold(4, 4), 3);
        due("7: law 5", x.lawTold(5, 0), UNKNOWN);
        due("7: law -1", x.lawTold(-1, 0), UNKNOWN);
        due("7: what 5", x.lawTold(0, 5), OUTSIDE);
        due("7: what -1", x.lawTold(0, -1), OUTSIDE);
        due("7: UNKNOWN first", x.lawTold(5, 5), UNKNOWN);
    }

    private static void asLaw() {
        BorderThroughBed x = new BorderThroughBed();
        due("8: none", x.asLaw(0, 0), UNKNOWN);
        String[] ends = {"", "h", "n", "f", "o"};
        for (String end : ends) {
            Check.law(x, "wa1-2" + end);
        }
        for (int law = 0; law < 5; law++) {
            for (int kind = 0; kind < 5; kind++) {
                boolean is = kind == 0 || kind == law || law == 3 && kind == 1;
                due("8: " + law + " as " + kind, x.asLaw(law, kind), is ? law : NONE);
            }
        }
        due("8: kind 5", x.asLaw(0, 5), OUTSIDE);
        due("8: kind -1", x.asLaw(0, -1), OUTSIDE);
        due("8: UNKNOWN first", x.asLaw(5, 5), UNKNOWN);
        due("8: law -1", x.asLaw(-1, 0), UNKNOWN);
    }

    private static void cell() {
        BorderThroughBed x = new BorderThroughBed();
        due("9: no house", x.cell(0, 0), UNKNOWN);
        Check.house(x, "|.#d/.|.#/..d|");
        int[] kinds = {0, 1, 2, 0, 0, 1, 0, 0, 2};
        int[] sides = {1, 1, 1, 0, 1, 1, 0, 0, 0};
        for (int cell = 0; cell < 9; cell++) {
            due("9: kind of " + cell, x.cell(cell, 0), kinds[cell]);
            due("9: side of " + cell, x.cell(cell, 1), sides[cell]);
            due("9: no thing in " + cell, x.cell(cell, 2), NONE);
        }
        x.thing(0, 0, 0);
        x.thing(1, 4, 2);
        due("9: thing 0", x.cell(0, 2), 0);
        due("9: bed", x.cell(4, 2), 1);
        due("9: bed's last cell", x.cell(7, 2), 1);
        due("9: without", x.cell(3, 2), NONE);
        due("9: cell 9", x.cell(9, 0), UNKNOWN);
        due("9: cell -1", x.cell(-1, 0), UNKNOWN);
        due("9: what 4", x.cell(0, 4), OUTSIDE);
        due("9: what -1", x.cell(0, -1), OUTSIDE);
        due("9: UNKNOWN first", x.cell(9, 4), UNKNOWN);
    }

    private static void cellsDoor() {
        BorderThroughBed x = Check.with("|.#d/.|.#/..d|");
        due("9: a door itself", x.cell(2, 3), 2);
        due("9: of a wall", x.cell(1, 3), NONE);
        due("9: the one that steps reach", x.cell(0, 3), 8);
        due("9: beside it", x.cell(7, 3), 8);
        BorderThroughBed y = Check.with("|d.d/|...");
        due("9: of like ones the least", y.cell(1, 3), 0);
        due("9: the nearer one", y.cell(5, 3), 2);
        y.thing(0, 1, 0);
        y.thing(0, 3, 0);
        y.thing(0, 5, 0);
        due("9: things don't count", y.cell(4, 3), 0);
        BorderThroughBed z = Check.with("|.#d/|.##");
        due("9: none is reached", z.cell(0, 3), NONE);
        BorderThroughBed over = Check.with("..|d/d..|");
        due("9: the line costs nothing", over.cell(1, 3), 2);
        BorderThroughBed three = Check.with("|....d/d....|");
        due("9: one step less over the line", three.cell(1, 3), 5);
        due("9: one step more over the line", three.cell(2, 3), 4);
        BorderThroughBed none = Check.with("|../|..");
        due("9: no door", none.cell(3, 3), NONE);
    }
}
