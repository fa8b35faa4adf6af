import java.util.ArrayList;
import java.util.List;

/**
 * What the tests of the edges share: each answer is told under a promise and the document's own
 * words that ask for it, and a refused call is held against an object that it was not called on.
 */
abstract class Edges {
    static final int NONE = -1, UNKNOWN = -101, OUTSIDE = -102, STATE = -103, FULL = -104;
    private static final Check CHECK = new Check("EdgesTest");
    private static final List<Quote> QUOTES = new ArrayList<>();
    private static Quote told = new Quote(0, "");

    /** Words of the document, and the promise that is tested by them. */
    record Quote(int promise, String words) {
    }

    interface Start {
        BorderThroughBed make();
    }

    interface Call {
        long on(BorderThroughBed x);
    }

    interface NumberCall {
        long on(BorderThroughBed x, int number);
    }

    /** What follows is asked for by these words. */
    static void says(int promise, String words) {
        told = new Quote(promise, words);
        QUOTES.add(told);
    }

    static List<Quote> quotes() {
        return QUOTES;
    }

    static void due(String call, long got, long want) {
        CHECK.due("promise " + told.promise() + ", \"" + told.words() + "\": " + call, got, want);
    }

    static void end() {
        CHECK.end();
    }

    // ---- refusals

    static void refused(String call, Start start, Call it, int refusal) {
        BorderThroughBed x = start.make();
        BorderThroughBed asItWas = start.make();
        due(call, it.on(x), refusal);
        due(call + ", all is as it was", x.digest(), asItWas.digest());
        due(call + ", there is an IMAGE as before", x.restore(), asItWas.restore());
        due(call + ", the IMAGE is as it was", x.digest(), asItWas.digest());
    }

    static void taken(String call, Start start, Call it) {
        boolean isRefused = it.on(start.make()) < NONE;
        due(call + " is refused", isRefused ? 1 : 0, 0);
    }

    /** Numbers too small and too large, by one, by the width of an int, by far, by all there is. */
    static int[] beyond(int least, int greatest) {
        return new int[] {least - 1, least - 2, least - 32, least - 1000, -(1 << 30),
            Integer.MIN_VALUE + 1, Integer.MIN_VALUE, greatest + 1, greatest + 2, greatest + 32,
            greatest + 64, greatest + 1000, 1 << 30, (1 << 30) + least + 1, Integer.MAX_VALUE - 1,
            Integer.MAX_VALUE};
    }

    /** All numbers from the least one to the greatest one are taken, those beyond are refused. */
    static void range(String call, Start start, NumberCall it, int least, int greatest,
            int refusal) {
        for (int number = least; number <= greatest; number++) {
            int n = number;
            taken(call + ", n = " + n, start, x -> it.on(x, n));
        }
        onlyBeyond(call, start, it, least, greatest, refusal);
    }

    static void onlyBeyond(String call, Start start, NumberCall it, int least, int greatest,
            int refusal) {
        for (int n : beyond(least, greatest)) {
            refused(call + ", n = " + n, start, x -> it.on(x, n), refusal);
        }
    }

    // ---- objects to start from

    static BorderThroughBed paged(String text) {
        BorderThroughBed x = new BorderThroughBed();
        Check.page(x, text);
        return x;
    }

    /** An object with that HOUSE and those LAWS; it is told, if a text of the test is none. */
    static BorderThroughBed with(String house, String... laws) {
        BorderThroughBed x = new BorderThroughBed();
        read(x, house);
        for (int law = 0; law < laws.length; law++) {
            due("the LAW " + laws[law], Check.law(x, laws[law]), law);
        }
        return x;
    }

    static void read(BorderThroughBed x, String house) {
        due("the HOUSE " + house, Check.house(x, house), house.replaceAll("[|/]", "").length());
    }

    /** A ROW of FLOOR with so many CELLS ahead of THE LINE. */
    static String rowWith(int width, int line) {
        return ".".repeat(line) + "|" + ".".repeat(width - line);
    }

    /** No HOUSE, but some of all that needs none. */
    static BorderThroughBed bare() {
        BorderThroughBed x = new BorderThroughBed();
        Check.law(x, "wa0-0");
        x.habit(0, 0);
        Check.page(x, "q");
        return x;
    }

    /**
     * Some of all, none of it full, and an IMAGE of another state. CELLS 0 "." 1 "." 2 "." 3 "d",
     * 4 "." 5 "#" 6 "." 7 ".", 8 to 11 "."; THINGS: a BED in 8 and 9, a BENCH in 7.
     */
    static BorderThroughBed some() {
        BorderThroughBed x = new BorderThroughBed();
        Check.house(x, "..|.d/.#|../...|.");
        for (String law : new String[] {"wa20-6h", "eb5-5", "wc0-12n", "ed7-9f", "we3-2o"}) {
            Check.law(x, law);
        }
        x.thing(1, 0, 1);
        x.event(21, 0, 1, 0, 1);
        x.habit(0, 3);
        x.judgment(3, 1);
        x.image();
        x.thing(3, 7, 0);
        x.move(0, 8, 1);
        x.event(2, 1, 0, 11, 0);
        x.habit(1, 4);
        x.judgment(8, 0);
        x.moves(0);
        Check.page(x, "q|");
        return x;
    }

    /**
     * All that can be full is full, in a HOUSE of 24 CELLS: 7 is a WALL, 11 a DOOR. THINGS: a BED
     * in 0 and 1, a TABLE in 3, a BENCH in 4.
     */
    static BorderThroughBed full() {
        BorderThroughBed x = new BorderThroughBed();
        Check.house(x, "...|.../.#.|..d/......|/|......");
        for (int law = 0; law < 8; law++) {
            Check.law(x, "ef" + law + "-9");
        }
        x.thing(1, 0, 1);
        x.image();
        x.thing(2, 3, 0);
        x.thing(3, 4, 0);
        for (int event = 0; event < 12; event++) {
            x.event(event, 5, 0, 12, 0);
        }
        for (int habit = 0; habit < 6; habit++) {
            x.habit(habit, 23);
        }
        for (int judgment = 0; judgment < 10; judgment++) {
            x.judgment(judgment, 0);
        }
        for (int moves = 0; moves < 12; moves++) {
            x.moves(0);
        }
        Check.page(x, "q".repeat(40));
        return x;
    }

    static BorderThroughBed someWith(String page) {
        BorderThroughBed x = some();
        Check.page(x, page);
        return x;
    }

    /** 24 CELLS of FLOOR, THE LINE in the middle of each ROW. */
    static BorderThroughBed wide() {
        BorderThroughBed x = new BorderThroughBed();
        Check.house(x, "...|.../...|.../...|.../...|...");
        return x;
    }

    /** The digest of numbers as the document tells it. */
    static long digestOf(List<Long> numbers) {
        long h = 521;
        for (long number : numbers) {
            h = 31 * h + number;
        }
        return h;
    }

    /** The digest of an object that has nothing but a page. */
    static long pageDigest(String text) {
        List<Long> numbers = new ArrayList<>();
        numbers.add(0L);
        for (char letter : text.toCharArray()) {
            numbers.add((long) letter);
        }
        for (int what = 0; what <= 8; what++) {
            numbers.add(what == 6 ? (long) text.length() : 0L);
        }
        return digestOf(numbers);
    }
}
