/** Promises 22 to 28: ways, WHOSE, DUTY, lines. */
public final class WaysTest {
    private static final int NONE = -1, UNKNOWN = -101, OUTSIDE = -102, STATE = -103, FULL = -104;
    private static final Check CHECK = new Check("WaysTest");

    private static void due(String call, long got, long want) {
        CHECK.due(call, got, want);
    }

    public static void main(String[] args) {
        steps();
        cheapest();
        whose();
        duty();
        dutyRefused();
        drawn();
        judgment();
        fits();
        CHECK.end();
    }

    private static void steps() {
        BorderThroughBed none = new BorderThroughBed();
        due("22: no house", none.steps(0, 0), UNKNOWN);
        BorderThroughBed x = Check.with("|.#./|.d./|#..");
        due("22: to itself", x.steps(0, 0), 0);
        due("22: round the wall", x.steps(0, 2), 4);
        due("22: a wall", x.steps(0, 1), UNKNOWN);
        due("22: from a wall", x.steps(6, 0), UNKNOWN);
        due("22: cell 9", x.steps(0, 9), UNKNOWN);
        due("22: cell -1", x.steps(-1, 0), UNKNOWN);
        x.thing(0, 5, 0);
        due("22: round a thing", x.steps(0, 8), 4);
        due("22: to a thing", x.steps(0, 5), 3);
        due("22: from a thing", x.steps(5, 0), 3);
        due("22: no way but through it", x.steps(0, 2), NONE);
        due("22: from it on", x.steps(5, 2), 1);
        x.thing(1, 7, 1);
        due("22: from a bed's last cell", x.steps(8, 0), NONE);
        due("22: a thing beside a thing", x.steps(8, 5), 1);
    }

    private static void cheapest() {
        BorderThroughBed none = new BorderThroughBed();
        due("23: no house", none.cheapest(0, 0, 10), UNKNOWN);
        BorderThroughBed x = Check.with("..|./..|./...|/...|");
        due("23: to itself", x.cheapest(3, 3, 9), 0);
        due("23: without a toll", x.cheapest(0, 2, 0), 2);
        due("23: once over the line", x.cheapest(0, 2, 5), 7);
        due("23: another side below", x.cheapest(5, 8, 4), 5);
        BorderThroughBed y = Check.with("...|/.#.|/|.#./...|");
        due("23: over the line for less", y.cheapest(3, 9, 1), 4);
        due("23: a longer way without it", y.cheapest(3, 5, 9), 4);
        due("23: twice over the line", y.cheapest(3, 9, 9), 20);
        BorderThroughBed z = Check.with("|.../.|../...|");
        due("23: round about", z.cheapest(0, 2, 9), 2);
        due("23: down over it", z.cheapest(0, 3, 3), 4);
        due("23: down twice over it", z.cheapest(5, 8, 9), 10);
        z.thing(0, 4, 0);
        due("23: a thing is in the way", z.cheapest(3, 5, 0), 4);
        due("23: into the thing", z.cheapest(3, 4, 2), 3);
        z.thing(0, 1, 0);
        z.thing(0, 7, 0);
        due("23: no way", z.cheapest(3, 5, 0), NONE);
        due("23: toll 10", z.cheapest(0, 1, 10), OUTSIDE);
        due("23: toll -1", z.cheapest(0, 1, -1), OUTSIDE);
        due("23: cell 9", z.cheapest(0, 9, 10), UNKNOWN);
        due("23: a wall", y.cheapest(0, 4, 0), UNKNOWN);
        due("23: from a wall", y.cheapest(4, 0, 0), UNKNOWN);
    }

    private static void whose() {
        BorderThroughBed x = Check.with(".|.d/.|.#");
        due("24: none", x.whose(0, 0), UNKNOWN);
        x.thing(1, 0, 1);
        x.thing(2, 3, 0);
        int[][] sides = {{0, 1, 1, NONE}, {0, 0, 1, 0}};
        for (int thing = 0; thing < 2; thing++) {
            for (int rule = 0; rule < 4; rule++) {
                due("24: " + thing + " by " + rule, x.whose(thing, rule), sides[thing][rule]);
            }
        }
        x.move(0, 1, 3);
        due("24: the other way, cell", x.whose(0, 0), 1);
        due("24: the other way, last cell", x.whose(0, 1), 0);
        x.move(0, 1, 2);
        due("24: both in the east", x.whose(0, 3), 1);
        due("24: rule 4", x.whose(0, 4), OUTSIDE);
        due("24: rule -1", x.whose(0, -1), OUTSIDE);
        due("24: UNKNOWN first", x.whose(2, 4), UNKNOWN);
        due("24: thing -1", x.whose(-1, 0), UNKNOWN);
        BorderThroughBed y = Check.with("..|/#.|");
        y.thing(0, 0, 0);
        due("24: without a door its own", y.whose(0, 2), 0);
    }

    private static void duty() {
        BorderThroughBed x = new BorderThroughBed();
        due("25: nothing", x.duty(0, 0, 0, 0, 0), 1);
        due("25: nothing costs nothing", x.duty(0, 0, 10, 0, 1), 0);
        due("25: tenths are rounded up", x.duty(1, 0, 1, 0, 1), 1);
        due("25: 10 by one tenth", x.duty(10, 0, 1, 0, 1), 1);
        due("25: 11 by one tenth", x.duty(11, 0, 1, 0, 1), 2);
        due("25: of like ones the fewest", x.duty(100, 10, 10, 10, 0), 1);
        due("25: of like ones the fewest, cost", x.duty(100, 10, 10, 10, 1), 100);
        due("25: ten walks", x.duty(100, 10, 10, 9, 0), 10);
        due("25: ten walks cost", x.duty(100, 10, 10, 9, 1), 90);
        due("25: twenty walks at most", x.duty(999, 9, 10, 0, 0), 20);
        due("25: twenty walks cost", x.duty(999, 9, 10, 0, 1), 819);
        due("25: the dearest", x.duty(999, 0, 10, 99, 1), 1098);
    }

    private static void dutyRefused() {
        BorderThroughBed x = new BorderThroughBed();
        due("25: value 1000", x.duty(1000, 0, 0, 0, 0), OUTSIDE);
        due("25: value -1", x.duty(-1, 0, 0, 0, 0), OUTSIDE);
        due("25: free 100", x.duty(0, 100, 0, 0, 0), OUTSIDE);
        due("25: free -1", x.duty(0, -1, 0, 0, 0), OUTSIDE);
        due("25: tenths 11", x.duty(0, 0, 11, 0, 0), OUTSIDE);
        due("25: tenths -1", x.duty(0, 0, -1, 0, 0), OUTSIDE);
        due("25: walk 100", x.duty(0, 0, 0, 100, 0), OUTSIDE);
        due("25: walk -1", x.duty(0, 0, 0, -1, 0), OUTSIDE);
        due("25: what 2", x.duty(0, 0, 0, 0, 2), OUTSIDE);
        due("25: what -1", x.duty(0, 0, 0, 0, -1), OUTSIDE);
    }

    private static void drawn() {
        BorderThroughBed x = new BorderThroughBed();
        due("26: no house", x.drawn(4), STATE);
        Check.house(x, "..|./.|.d");
        Check.law(x, "wa0-0h");
        Check.law(x, "eb0-0n");
        Check.law(x, "wc0-0o");
        x.event(0, 0, 0, 1, 0);
        x.event(0, 1, 0, 0, 1);
        x.event(0, 2, 0, 0, 0);
        x.event(0, 3, 0, 0, 0);
        due("26: as it is", x.drawn(0), 1);
        due("26: one to the left", x.drawn(-1), 2);
        due("26: two to the left", x.drawn(-2), 2);
        due("26: three to the left", x.drawn(-3), 2);
        due("26: one to the right", x.drawn(1), 1);
        due("26: two to the right", x.drawn(2), 5);
        due("26: three to the right", x.drawn(3), 5);
        due("26: by 4", x.drawn(4), OUTSIDE);
        due("26: by -4", x.drawn(-4), OUTSIDE);
        due("26: the line itself stays", x.cell(1, 1), 0);
    }

    private static void judgment() {
        BorderThroughBed none = new BorderThroughBed();
        due("27: no house", none.judgment(0, 0), UNKNOWN);
        BorderThroughBed x = Check.with("|.#/|..");
        due("27: cell 4", x.judgment(4, 2), UNKNOWN);
        due("27: cell -1", x.judgment(-1, 0), UNKNOWN);
        due("27: side 2", x.judgment(0, 2), OUTSIDE);
        due("27: side -1", x.judgment(0, -1), OUTSIDE);
        for (int i = 1; i <= 10; i++) {
            due("27: judgment " + i + ", of a wall", x.judgment(1, 0), i);
        }
        due("27: an eleventh", x.judgment(1, 0), FULL);
        due("27: OUTSIDE ahead of FULL", x.judgment(1, 2), OUTSIDE);
        due("27: ten", x.count(5), 10);
    }

    private static void fits() {
        BorderThroughBed x = new BorderThroughBed();
        due("28: no house", x.fits(), STATE);
        Check.house(x, "..|../.|...");
        due("28: without judgments", x.fits(), 127);
        x.judgment(1, 0);
        due("28: cell 1 in the west", x.fits(), 0b1111000);
        x.judgment(6, 1);
        due("28: cell 6 in the east", x.fits(), 0b0011000);
        x.judgment(2, 1);
        due("28: cell 2 in the east", x.fits(), 0b0001000);
        x.judgment(3, 0);
        due("28: by none", x.fits(), 0);
    }
}
