/** Promises 15 to 21: THINGS, HABITS, MOVES. */
public final class ThingsTest {
    private static final int NONE = -1, UNKNOWN = -101, OUTSIDE = -102, STATE = -103, FULL = -104;
    private static final Check CHECK = new Check("ThingsTest");

    private static void due(String call, long got, long want) {
        CHECK.due(call, got, want);
    }

    public static void main(String[] args) {
        thing();
        thingRefused();
        asThing();
        about();
        move();
        moveRefused();
        habit();
        keptInBed();
        keptAtTable();
        keptAnywhere();
        movesRefused();
        movesOne();
        movesTwo();
        movesSwap();
        movesTurn();
        movesToTheFirstCell();
        movesTwoToTheFirstCell();
        CHECK.end();
    }

    private static void dueMoves(String what, BorderThroughBed x, int... told) {
        for (int i = 0; i < 5; i++) {
            due("21: " + what + ", " + i, x.moves(i), told[i]);
        }
    }

    private static void thing() {
        BorderThroughBed x = Check.with("|.../|...");
        due("15: a bed", x.thing(1, 0, 1), 0);
        due("15: where the bed is", x.thing(0, 0, 0), STATE);
        due("15: where the bed ends", x.thing(2, 1, 0), STATE);
        due("15: a bed that ends in the bed", x.thing(1, 4, 0), STATE);
        due("15: a bed that ends outside", x.thing(1, 5, 1), STATE);
        due("15: a bed that ends below", x.thing(1, 5, 2), STATE);
        due("15: a bench", x.thing(3, 2, 0), 1);
        due("15: a table", x.thing(2, 5, 0), 2);
        due("15: a fourth", x.thing(0, 3, 0), FULL);
        due("15: STATE ahead of FULL", x.thing(0, 5, 0), STATE);
        due("15: three", x.count(3), 3);
    }

    private static void thingRefused() {
        BorderThroughBed none = new BorderThroughBed();
        due("15: no house", none.thing(0, 0, 0), UNKNOWN);
        due("15: no house, kind", none.thing(4, 0, 0), OUTSIDE);
        BorderThroughBed x = Check.with("|.#d/|...");
        due("15: kind 4", x.thing(4, 1, 0), OUTSIDE);
        due("15: kind -1", x.thing(-1, 0, 0), OUTSIDE);
        due("15: a wall", x.thing(0, 1, 0), UNKNOWN);
        due("15: a door, way", x.thing(0, 2, 9), UNKNOWN);
        due("15: cell 6", x.thing(0, 6, 0), UNKNOWN);
        due("15: cell -1", x.thing(0, -1, 0), UNKNOWN);
        due("15: a table's way", x.thing(2, 0, 1), OUTSIDE);
        due("15: a bed's way 4", x.thing(1, 0, 4), OUTSIDE);
        due("15: a bed's way -1", x.thing(1, 0, -1), OUTSIDE);
        due("15: a bed into a wall", x.thing(1, 0, 1), STATE);
        due("15: a bed into a door", x.thing(1, 5, 0), STATE);
        due("15: nothing has changed", x.count(3), 0);
    }

    private static void asThing() {
        BorderThroughBed x = Check.with("|.../|...");
        due("16: none", x.asThing(0, 0), UNKNOWN);
        boolean[][] is = {{true, false, true, true}, {true, true, false, false},
            {true, false, true, false}};
        x.thing(3, 0, 0);
        x.thing(1, 1, 1);
        x.thing(2, 3, 0);
        for (int thing = 0; thing < 3; thing++) {
            for (int kind = 0; kind < 4; kind++) {
                due("16: " + thing + " as " + kind, x.asThing(thing, kind),
                        is[thing][kind] ? thing : NONE);
            }
        }
        BorderThroughBed y = Check.with("|.../|...");
        y.thing(0, 0, 0);
        due("16: a mere thing", y.asThing(0, 0), 0);
        due("16: a mere thing as a table", y.asThing(0, 2), NONE);
        due("16: kind 4", x.asThing(0, 4), OUTSIDE);
        due("16: kind -1", x.asThing(0, -1), OUTSIDE);
        due("16: UNKNOWN first", x.asThing(3, 4), UNKNOWN);
        due("16: thing -1", x.asThing(-1, 0), UNKNOWN);
    }

    private static void about() {
        BorderThroughBed x = Check.with("|.../|...");
        due("17: none", x.about(0, 0), UNKNOWN);
        x.thing(1, 4, 0);
        x.thing(3, 5, 0);
        int[][] told = {{1, 4, 0, 1}, {3, 5, 0, 5}};
        for (int thing = 0; thing < 2; thing++) {
            for (int what = 0; what < 4; what++) {
                due("17: " + thing + ", " + what, x.about(thing, what), told[thing][what]);
            }
        }
        x.move(0, 4, 3);
        due("17: another way", x.about(0, 2), 3);
        due("17: another last cell", x.about(0, 3), 3);
        due("17: what 4", x.about(0, 4), OUTSIDE);
        due("17: what -1", x.about(0, -1), OUTSIDE);
        due("17: UNKNOWN first", x.about(2, 4), UNKNOWN);
    }

    private static void move() {
        BorderThroughBed x = Check.with("|.../|...");
        x.thing(1, 0, 1);
        x.thing(2, 5, 0);
        due("18: the bed turns", x.move(0, 1, 3), 1);
        due("18: the bed moves into its own cell", x.move(0, 1, 1), 7);
        due("18: it is there", x.about(0, 3), 2);
        due("18: to where it is", x.move(0, 1, 1), 5);
        due("18: the table", x.move(1, 0, 0), 20);
        due("18: the table's cell", x.cell(0, 2), 1);
        due("18: the cell that it left", x.cell(5, 2), NONE);
    }

    private static void moveRefused() {
        BorderThroughBed none = new BorderThroughBed();
        due("18: no house", none.move(0, 0, 0), UNKNOWN);
        BorderThroughBed x = Check.with("|.#d/|...");
        due("18: no things", x.move(0, 0, 0), UNKNOWN);
        x.thing(1, 3, 1);
        x.thing(0, 5, 0);
        due("18: thing 2", x.move(2, 0, 0), UNKNOWN);
        due("18: a wall", x.move(0, 1, 9), UNKNOWN);
        due("18: a door", x.move(0, 2, 0), UNKNOWN);
        due("18: cell 6", x.move(0, 6, 0), UNKNOWN);
        due("18: way 4", x.move(0, 0, 4), OUTSIDE);
        due("18: a mere thing's way", x.move(1, 0, 1), OUTSIDE);
        due("18: a bed into a wall", x.move(0, 0, 1), STATE);
        due("18: a bed into a thing", x.move(0, 4, 1), STATE);
        due("18: a thing into a bed", x.move(1, 4, 0), STATE);
        due("18: a bed out of the house", x.move(0, 3, 3), STATE);
        due("18: nothing has changed", x.about(0, 1), 3);
    }

    private static void habit() {
        BorderThroughBed x = new BorderThroughBed();
        due("19: without a house", x.habit(0, 0), 0);
        due("19: act 6", x.habit(6, 0), OUTSIDE);
        due("19: act -1", x.habit(-1, 0), OUTSIDE);
        due("19: hour 24", x.habit(0, 24), OUTSIDE);
        due("19: hour -1", x.habit(0, -1), OUTSIDE);
        for (int habit = 1; habit < 6; habit++) {
            due("19: habit " + habit, x.habit(5, 23), habit);
        }
        due("19: a seventh", x.habit(0, 0), FULL);
        due("19: OUTSIDE ahead of FULL", x.habit(6, 0), OUTSIDE);
        due("20: without a house", x.kept(), 0);
    }

    private static void keptInBed() {
        BorderThroughBed x = Check.with("..|./..|.", "wa0-12f", "ea12-0f", "wa20-21");
        x.habit(0, 0);
        x.habit(0, 12);
        x.habit(0, 20);
        due("20: no bed", x.kept(), 0);
        x.thing(0, 5, 0);
        due("20: a thing is no bed", x.kept(), 0);
        x.thing(1, 0, 1);
        due("20: in the west", x.kept(), 2);
        x.move(1, 1, 1);
        due("20: over the line", x.kept(), 3);
        x.move(0, 0, 0);
        x.move(1, 2, 2);
        due("20: in the east", x.kept(), 1);
    }

    private static void keptAtTable() {
        BorderThroughBed x = Check.with("..|./##|#", "wb0-0h", "wc0-12n");
        x.habit(1, 0);
        x.habit(2, 0);
        x.habit(2, 12);
        due("20: no table", x.kept(), 0);
        x.thing(2, 1, 0);
        due("20: a table is no bench", x.kept(), 1);
        x.move(0, 0, 0);
        due("20: a table in the west", x.kept(), 0);
        x.thing(3, 1, 0);
        due("20: a bench is a table", x.kept(), 5);
        x.move(0, 2, 0);
        x.move(1, 0, 0);
        due("20: a bench in the west", x.kept(), 4);
        x.move(1, 1, 0);
        due("20: beside it is a thing", x.kept(), 4);
        BorderThroughBed y = Check.with("|.d/|##", "ec0-0o");
        y.thing(3, 0, 0);
        y.habit(1, 0);
        y.habit(2, 0);
        due("20: from a door", y.kept(), 1);
        BorderThroughBed z = Check.with("|.#/|#.");
        z.thing(3, 0, 0);
        z.habit(1, 0);
        due("20: nowhere to stand", z.kept(), 0);
    }

    private static void keptAnywhere() {
        BorderThroughBed x = Check.with("|.#/.|#", "ed0-0h", "ef0-0n", "ee0-0f", "we0-0f");
        x.habit(3, 0);
        x.habit(5, 0);
        x.habit(4, 0);
        due("20: any cell, any way", x.kept(), 7);
        x.thing(0, 2, 0);
        due("20: not where a thing is", x.kept(), 6);
        x.move(0, 0, 0);
        due("20: not where a thing is, hands", x.kept(), 7);
        x.thing(0, 2, 0);
        due("20: no cell without a thing", x.kept(), 0);
    }

    private static void movesRefused() {
        BorderThroughBed x = new BorderThroughBed();
        due("21: no house", x.moves(5), STATE);
        Check.house(x, "|../|..");
        due("21: what 5", x.moves(5), OUTSIDE);
        due("21: what -1", x.moves(-1), OUTSIDE);
        due("31: refused ones are not done", x.count(8), 0);
        x.image();
        dueMoves("no habits", x, 0, NONE, NONE, NONE, NONE);
        x.restore();
        Check.house(x, "|../|..");
        x.habit(0, 0);
        for (int i = 0; i < 7; i++) {
            due("21: no bed", x.moves(0), NONE);
        }
        due("21: a thirteenth", x.moves(0), STATE);
        due("21: OUTSIDE ahead of it", x.moves(5), OUTSIDE);
        due("31: done", x.count(8), 12);
    }

    private static void movesOne() {
        BorderThroughBed x = Check.with("..|../..|..", "wa0-0f", "wb0-0h");
        x.thing(0, 7, 0);
        x.thing(1, 0, 1);
        x.habit(0, 0);
        dueMoves("the bed to its first place in the east", x, 1, 1, 4 * 1 + 1, NONE, NONE);
        due("21: nothing has moved", x.about(1, 1), 0);
        x.thing(2, 4, 0);
        x.habit(1, 0);
        dueMoves("a bed and a table", x, 2, 1, 4 * 1 + 1, 2, 4 * 5);
        BorderThroughBed y = Check.with("|.#/|.#", "ed0-0n");
        y.thing(0, 2, 0);
        y.habit(3, 0);
        dueMoves("by no one", y, NONE, NONE, NONE, NONE, NONE);
    }

    private static void movesTwo() {
        BorderThroughBed x = Check.with("...|/#.#|");
        x.thing(0, 0, 0);
        x.thing(0, 1, 0);
        x.habit(3, 5);
        dueMoves("nothing has to move", x, 0, NONE, NONE, NONE, NONE);
        BorderThroughBed y = Check.with("|...../|#####", "eb0-0h");
        y.thing(3, 0, 0);
        y.habit(1, 0);
        dueMoves("no help", y, NONE, NONE, NONE, NONE, NONE);
        BorderThroughBed z = Check.with("..|../##|##", "wa0-0h", "wb0-0h", "ec0-0n");
        z.thing(1, 1, 3);
        z.thing(2, 2, 0);
        z.thing(3, 3, 0);
        z.habit(0, 0);
        z.habit(2, 0);
        dueMoves("not by two of three", z, NONE, NONE, NONE, NONE, NONE);
    }

    /** A corridor: the bench must be in the west, where the mere thing is. */
    private static void movesSwap() {
        BorderThroughBed x = Check.with(".|../#|##", "ec0-0n");
        x.thing(0, 0, 0);
        x.thing(3, 1, 0);
        x.habit(2, 0);
        dueMoves("both at once", x, 2, 0, 4 * 2, 1, 0);
        due("20: it was not kept", x.kept(), 0);
        x.move(0, 2, 0);
        x.move(1, 0, 0);
        due("20: it is kept", x.kept(), 1);
    }

    private static void movesToTheFirstCell() {
        BorderThroughBed x = Check.with("|..../|####", "ec0-12n");
        x.thing(0, 1, 0);
        x.thing(0, 3, 0);
        x.thing(3, 2, 0);
        x.habit(2, 12);
        dueMoves("the first one to the first cell", x, 1, 0, 0, NONE, NONE);
        BorderThroughBed y = Check.with("|.../|#.#");
        y.thing(3, 0, 0);
        y.thing(0, 1, 0);
        y.thing(2, 2, 0);
        y.habit(2, 0);
        dueMoves("into the room below", y, 1, 1, 4 * 4, NONE, NONE);
    }

    private static void movesTwoToTheFirstCell() {
        BorderThroughBed x = Check.with("..|./##|#", "wc0-0n");
        x.thing(0, 2, 0);
        x.thing(3, 0, 0);
        x.habit(2, 0);
        dueMoves("both ends of a corridor", x, 2, 0, 0, 1, 4 * 2);
        BorderThroughBed y = Check.with(".|../#|#.", "eb0-0h");
        y.thing(0, 1, 0);
        y.thing(2, 2, 0);
        y.habit(1, 0);
        dueMoves("the table to the thing's cell", y, 2, 0, 4 * 2, 1, 4 * 1);
    }

    /** A bed of which the way alone is wrong: its cells stay. */
    private static void movesTurn() {
        BorderThroughBed x = Check.with(".|./#|#", "wa0-0h");
        x.thing(1, 0, 1);
        x.habit(0, 0);
        dueMoves("the bed turns", x, 1, 0, 4 * 1 + 3, NONE, NONE);
    }
}
