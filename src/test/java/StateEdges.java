import java.math.BigInteger;
import java.util.ArrayList;
import java.util.List;

/** Promises 29 to 32: the IMAGE, count, digest; what is told of all calls. */
final class StateEdges extends Edges {
    private static final int RIGHT = 1, DOWN = 2;

    static void run() {
        imageRefused();
        imageOfThings();
        imageIsTheLatest();
        restoreBringsBack();
        restoreLeaves();
        restoreRefused();
        counts();
        countRange();
        digests();
        digestWraps();
        withoutHouse();
        manyCalls();
        manyHouses();
    }

    // ---- the IMAGE

    private static void imageRefused() {
        says(29, "STATE: there is no HOUSE.");
        refused("a new object", BorderThroughBed::new, x -> x.image(), STATE);
        refused("no HOUSE", Edges::bare, x -> x.image(), STATE);
        BorderThroughBed x = bare();
        x.image();
        read(x, "|../|..");
        due("a refused one is none", x.restore(), STATE);
    }

    private static void imageOfThings() {
        says(29, "how many THINGS.");
        BorderThroughBed x = wide();
        due("no THINGS", x.image(), 0);
        for (int thing = 1; thing <= 3; thing++) {
            x.thing(0, thing, 0);
            due(thing + " THINGS", x.image(), thing);
        }
        due("WALLS alone", with("##|/##|").image(), 0);
        due("all is full", full().image(), 3);
    }

    private static void imageIsTheLatest() {
        says(29, "An IMAGE is kept (one; the latest):");
        BorderThroughBed x = full();
        due("how many", x.image(), 3);
        long before = x.digest();
        x.move(0, 12, RIGHT);
        due("the latest", x.restore(), 3);
        due("all is as it was then", x.digest(), before);
        BorderThroughBed y = full();
        y.restore();
        long first = y.digest();
        due("the restored one is kept", y.image(), 1);
        y.thing(0, 23, 0);
        due("and restored", y.restore(), 1);
        due("as it was", y.digest(), first);
    }

    /** An EVENT, a THING, a HABIT and a JUDGMENT more, and the first THING elsewhere. */
    private static void change(BorderThroughBed x) {
        x.move(0, 12, DOWN);
        x.thing(2, 23, 0);
        x.event(3, 3, 1, 4, 2);
        x.habit(4, 4);
        x.judgment(22, 1);
    }

    private static void restoreBringsBack() {
        says(30, "It goes on from the IMAGE: how many THINGS.");
        BorderThroughBed x = wide();
        x.thing(1, 0, RIGHT);
        x.event(1, 1, 1, 1, 1);
        x.habit(1, 1);
        x.judgment(1, 1);
        due("one THING", x.image(), 1);
        long before = x.digest();
        for (int time = 0; time < 3; time++) {
            change(x);
            due("it is another state", x.digest() == before ? 1 : 0, 0);
            due("one THING", x.restore(), 1);
            due("all is as it was", x.digest(), before);
            due("once more at once", x.restore(), 1);
            due("all is still as it was", x.digest(), before);
        }
        says(30, "An IMAGE keeps THINGS (those that come since are gone by restore()), EVENTS, HABITS, "
                + "JUDGMENTS.");
        int[] counts = {24, 0, 1, 1, 1, 1, 0, 1, 0};
        for (int what = 0; what <= 8; what++) {
            due("count(" + what + ")", x.count(what), counts[what]);
        }
        due("the second THING is gone", x.about(1, 0), UNKNOWN);
        due("no THING is in its CELL", x.cell(23, 2), NONE);
        due("the first one is where it was", x.about(0, 3), 1);
        BorderThroughBed empty = wide();
        due("an empty one", empty.image(), 0);
        change(empty);
        due("nothing is left", empty.restore(), 0);
        for (int what = 2; what <= 5; what++) {
            due("count(" + what + ")", empty.count(what), 0);
        }
        BorderThroughBed full = full();
        full.image();
        long all = full.digest();
        due("three THINGS", full.restore(), 3);
        due("a full one is full again", full.digest(), all);
        due("a fourth THING", full.thing(0, 23, 0), FULL);
    }

    private static void restoreLeaves() {
        says(30, "An IMAGE keeps THINGS (those that come since are gone by restore()), EVENTS, HABITS, "
                + "JUDGMENTS.");
        BorderThroughBed x = with("|../|..", "wa0-0");
        x.image();
        Check.law(x, "eb1-2");
        x.moves(0);
        Check.page(x, "abc");
        due("no THINGS", x.restore(), 0);
        int[] counts = {4, 2, 0, 0, 0, 0, 3, 1, 1};
        for (int what = 0; what <= 8; what++) {
            due("count(" + what + ") goes on", x.count(what), counts[what]);
        }
    }

    private static void restoreRefused() {
        says(30, "STATE: none was kept,");
        refused("a new object", BorderThroughBed::new, x -> x.restore(), STATE);
        refused("no HOUSE", Edges::bare, x -> x.restore(), STATE);
        refused("a HOUSE alone", Edges::wide, x -> x.restore(), STATE);
        says(30, "or a HOUSE was read since (of the same text, too).");
        String text = "..|.d/.#|../...|.";
        for (String house : new String[] {text, "|../|.."}) {
            refused(house, () -> {
                BorderThroughBed x = some();
                read(x, house);
                x.thing(0, 0, 0);
                return x;
            }, x -> x.restore(), STATE);
        }
        BorderThroughBed x = some();
        Check.page(x, "|../|...");
        due("a text that is no HOUSE", x.house(), STATE);
        due("the IMAGE is still kept", x.restore(), 1);
        BorderThroughBed y = some();
        read(y, text);
        due("an IMAGE of the other HOUSE", y.image(), 0);
        due("is kept", y.restore(), 0);
    }

    // ---- count, digest

    private static void counts() {
        says(31, "How many: 0 CELLS, 1 LAWS, 2 EVENTS, 3 THINGS, 4 HABITS, 5 JUDGMENTS, 6 letters of "
                + "THE PAGE, 7 how often a HOUSE was read, 8 how often moves() was done.");
        int[] some = {12, 5, 2, 2, 2, 2, 2, 1, 1};
        int[] full = {24, 8, 12, 3, 6, 10, 40, 1, 12};
        int[] bare = {0, 1, 0, 0, 1, 0, 1, 0, 0};
        for (int what = 0; what <= 8; what++) {
            due("a new object, " + what, new BorderThroughBed().count(what), 0);
            due("no HOUSE, " + what, bare().count(what), bare[what]);
            due("some of all, " + what, some().count(what), some[what]);
            due("all is full, " + what, full().count(what), full[what]);
        }
    }

    private static void countRange() {
        says(31, "OUTSIDE.");
        for (Start start : new Start[] {Edges::some, Edges::full, BorderThroughBed::new}) {
            range("count(n)", start, (x, n) -> x.count(n), 0, 8, OUTSIDE);
        }
    }

    /** The numbers of a digest, as the other calls tell them; EVENTS are as those that made them. */
    private static long digestBy(BorderThroughBed x, String page, int[][] events, int[][] habits,
            int[][] judgments) {
        List<Long> numbers = new ArrayList<>();
        for (int cell = 0; cell < x.count(0); cell++) {
            for (int what = 0; what <= 3; what++) {
                numbers.add((long) x.cell(cell, what));
            }
        }
        for (int law = 0; law < x.count(1); law++) {
            for (int what = 0; what <= 4; what++) {
                numbers.add((long) x.lawTold(law, what));
            }
        }
        for (int[] event : events) {
            addAll(numbers, event);
            numbers.add((long) x.against(event[1], event[0], event[2], event[3], event[4]));
        }
        for (int thing = 0; thing < x.count(3); thing++) {
            for (int what = 0; what <= 3; what++) {
                numbers.add((long) x.about(thing, what));
            }
        }
        addAll(numbers, habits);
        numbers.add((long) x.kept());
        addAll(numbers, judgments);
        if (x.count(0) > 0) {
            numbers.add((long) x.fits());
        }
        for (char letter : page.toCharArray()) {
            numbers.add((long) letter);
        }
        for (int what = 0; what <= 8; what++) {
            numbers.add((long) x.count(what));
        }
        return digestOf(numbers);
    }

    private static void addAll(List<Long> numbers, int[]... rows) {
        for (int[] row : rows) {
            for (int number : row) {
                numbers.add((long) number);
            }
        }
    }

    private static void digests() {
        says(32, "h is 521, then for each of these numbers, in order, 31 times h, and it (as longs, "
                + "wrapping): of each CELL what cell() tells for 0 to 3; of each LAW what lawTold() "
                + "tells for 0 to 4; of each EVENT hour, ACT, POSTURE, CELL, WAY, AGAINST which LAWS; "
                + "of each THING what about() tells for 0 to 3; of each HABIT ACT, hour; KEPT; of each "
                + "JUDGMENT CELL, SIDE; with a HOUSE FITS; letters of THE PAGE, each by its code; what "
                + "count() tells for 0 to 8.");
        int[][] none = {};
        due("a new object", new BorderThroughBed().digest(),
                digestBy(new BorderThroughBed(), "", none, none, none));
        due("no HOUSE", bare().digest(), digestBy(bare(), "q", none, new int[][] {{0, 0}}, none));
        due("a HOUSE alone", wide().digest(), digestBy(wide(), "", none, none, none));
        due("WALLS alone", with("##|/##|").digest(),
                digestBy(with("##|/##|"), "", none, none, none));
        due("some of all", some().digest(), digestBy(some(), "q|",
                new int[][] {{21, 0, 1, 0, 1}, {2, 1, 0, 11, 0}}, new int[][] {{0, 3}, {1, 4}},
                new int[][] {{3, 1}, {8, 0}}));
        int[][] events = new int[12][];
        BorderThroughBed x = with(".|./.|d", "wa0-0h", "ea0-0n", "wb0-0f", "eb0-0o");
        for (int i = 0; i < 12; i++) {
            events[i] = new int[] {23 - i, i / 6, i % 3, i % 4, (i + 1) % 4};
            x.event(23 - i, i / 6, i % 3, i % 4, (i + 1) % 4);
        }
        due("EVENTS on both SIDES", x.digest(), digestBy(x, "", events, none, none));
        int[][] habits = new int[6][];
        int[][] judgments = new int[10][];
        for (int i = 0; i < 12; i++) {
            events[i] = new int[] {i, 5, 0, 12, 0};
            habits[i % 6] = new int[] {i % 6, 23};
            judgments[i % 10] = new int[] {i % 10, 0};
        }
        due("all is full", full().digest(),
                digestBy(full(), "q".repeat(40), events, habits, judgments));
    }

    private static void digestWraps() {
        says(32, "(as longs, wrapping)");
        String page = "~".repeat(40);
        BigInteger h = BigInteger.valueOf(521);
        List<Long> numbers = new ArrayList<>();
        numbers.add(0L);
        for (char letter : page.toCharArray()) {
            numbers.add((long) letter);
        }
        for (int what = 0; what <= 8; what++) {
            numbers.add(what == 6 ? 40L : 0L);
        }
        for (long number : numbers) {
            h = h.multiply(BigInteger.valueOf(31)).add(BigInteger.valueOf(number));
        }
        due("a full page", paged(page).digest(), h.longValue());
        due("it is more than a long holds", h.bitLength() > 64 ? 1 : 0, 1);
        BorderThroughBed x = full();
        due("it changes nothing", x.digest(), x.digest());
    }

    // ---- all calls

    private static void withoutHouse() {
        says(26, "Without a HOUSE: STATE, where it is told, behind UNKNOWN.");
        for (Start start : new Start[] {BorderThroughBed::new, Edges::bare}) {
            refused("cell", start, x -> x.cell(0, 0), UNKNOWN);
            refused("part", start, x -> x.part(0, 0, 0, 0), UNKNOWN);
            refused("against", start, x -> x.against(0, 0, 0, 0, 0), UNKNOWN);
            refused("event", start, x -> x.event(0, 0, 0, 0, 0), UNKNOWN);
            refused("map", start, x -> x.map(0, 0, 0, 0), STATE);
            refused("thing", start, x -> x.thing(0, 0, 0), UNKNOWN);
            refused("asThing", start, x -> x.asThing(0, 0), UNKNOWN);
            refused("about", start, x -> x.about(0, 0), UNKNOWN);
            refused("move", start, x -> x.move(0, 0, 0), UNKNOWN);
            refused("moves", start, x -> x.moves(0), STATE);
            refused("steps", start, x -> x.steps(0, 0), UNKNOWN);
            refused("cheapest", start, x -> x.cheapest(0, 0, 0), UNKNOWN);
            refused("whose", start, x -> x.whose(0, 0), UNKNOWN);
            refused("drawn", start, x -> x.drawn(0), STATE);
            refused("judgment", start, x -> x.judgment(0, 0), UNKNOWN);
            refused("fits", start, x -> x.fits(), STATE);
            refused("image", start, x -> x.image(), STATE);
            taken("first", start, x -> x.first(0));
            taken("habit", start, x -> x.habit(0, 0));
            taken("kept", start, x -> x.kept());
            taken("duty", start, x -> x.duty(0, 0, 0, 0, 0));
            taken("count", start, x -> x.count(0));
        }
        says(26, "Refusals, of several the first as told by each call: UNKNOWN (a number names "
                + "nothing), OUTSIDE (it is not as told), STATE (as told), FULL; they change nothing.");
        refused("a refused call, and all is as it was", Edges::full, x -> x.drawn(4), OUTSIDE);
    }

    /** The 512th call is still as told. */
    private static void manyCalls() {
        says(31, "An object is used for at most 512 calls after it has been made;");
        BorderThroughBed x = new BorderThroughBed();
        for (int call = 1; call <= 512; call++) {
            int letters = call % 16;
            if (letters == 0) {
                due("blank, call " + call, x.blank(), 15);
            } else {
                due("letters, call " + call, x.letters('a'), letters);
            }
        }
    }

    private static void manyHouses() {
        says(31, "7 how often a HOUSE was read,");
        BorderThroughBed x = new BorderThroughBed();
        long text = Check.word("d.|/.|#");
        for (int house = 1; house <= 127; house++) {
            x.letters(text);
            due("the HOUSE " + house, x.house(), 4);
            due("a HABIT", x.habit(3, 0), 0);
            due("how often", x.count(7), house);
        }
        x.letters(text);
        due("the last HOUSE", x.house(), 4);
        due("a STEP", x.steps(0, 2), 1);
        due("the 512th call", x.count(7), 128);
    }
}
