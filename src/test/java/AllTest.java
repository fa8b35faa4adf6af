/** Promises 1 and 29 to 32: a new object, the IMAGE, count, digest. */
public final class AllTest {
    private static final int NONE = -1, UNKNOWN = -101, OUTSIDE = -102, STATE = -103, FULL = -104;
    private static final Check CHECK = new Check("AllTest");

    private static void due(String call, long got, long want) {
        CHECK.due(call, got, want);
    }

    public static void main(String[] args) {
        constants();
        newObject();
        image();
        imageIsTheLatest();
        restoreIsRefused();
        count();
        digest();
        digestOfAll();
        CHECK.end();
    }

    private static void constants() {
        due("NONE", BorderThroughBed.NONE, NONE);
        due("UNKNOWN", BorderThroughBed.UNKNOWN, UNKNOWN);
        due("OUTSIDE", BorderThroughBed.OUTSIDE, OUTSIDE);
        due("STATE", BorderThroughBed.STATE, STATE);
        due("FULL", BorderThroughBed.FULL, FULL);
    }

    private static void newObject() {
        BorderThroughBed x = new BorderThroughBed();
        for (int what = 0; what < 9; what++) {
            due("1: count " + what, x.count(what), 0);
        }
        due("1: no laws", x.lawTold(0, 0), UNKNOWN);
        due("1: no house", x.fits(), STATE);
        due("1: no image", x.restore(), STATE);
        BorderThroughBed other = Check.with("|../|..", "wa0-0");
        due("1: objects are apart", x.count(0) + x.count(1), 0);
        due("1: the other one", other.count(0), 4);
    }

    private static void image() {
        BorderThroughBed x = new BorderThroughBed();
        due("29: no house", x.image(), STATE);
        Check.house(x, "|../|..");
        due("29: no things", x.image(), 0);
        x.thing(1, 0, 1);
        x.event(5, 0, 0, 0, 0);
        x.habit(0, 5);
        x.judgment(0, 1);
        due("29: one thing", x.image(), 1);
        long before = x.digest();
        x.move(0, 0, 2);
        x.thing(0, 3, 0);
        x.event(6, 1, 1, 1, 1);
        x.habit(1, 6);
        x.judgment(1, 0);
        due("30: one thing", x.restore(), 1);
        due("30: all as it was", x.digest(), before);
        due("30: the place, too", x.about(0, 2), 1);
        due("30: the later thing is gone", x.about(1, 0), UNKNOWN);
        x.thing(0, 3, 0);
        due("30: once more", x.restore(), 1);
        Check.law(x, "wa0-0");
        Check.page(x, "abc");
        x.moves(0);
        due("30: again", x.restore(), 1);
        due("30: laws stay", x.count(1), 1);
        due("30: the page stays", x.count(6), 3);
        due("30: moves count on", x.count(8), 1);
    }

    private static void imageIsTheLatest() {
        BorderThroughBed x = Check.with("|../|..");
        x.thing(0, 0, 0);
        x.image();
        x.thing(0, 1, 0);
        due("29: two things", x.image(), 2);
        x.thing(0, 2, 0);
        due("30: the latest", x.restore(), 2);
        x.move(0, 3, 0);
        due("30: the image itself stays", x.restore(), 2);
        due("30: place", x.about(0, 1), 0);
    }

    private static void restoreIsRefused() {
        BorderThroughBed x = Check.with("|../|..");
        due("30: none kept", x.restore(), STATE);
        x.image();
        due("5: no house", Check.house(x, "|../"), STATE);
        due("30: no house was read", x.restore(), 0);
        Check.house(x, "|../|..");
        due("30: the same house was read", x.restore(), STATE);
    }

    private static void count() {
        BorderThroughBed x = Check.with("|.../|...", "wa0-0", "wb0-0");
        x.event(0, 0, 0, 0, 0);
        x.event(0, 0, 0, 0, 0);
        x.event(0, 0, 0, 0, 0);
        for (int i = 0; i < 4; i++) {
            x.habit(0, 0);
        }
        for (int i = 0; i < 5; i++) {
            x.judgment(0, 0);
        }
        x.thing(0, 0, 0);
        x.moves(0);
        x.moves(0);
        Check.page(x, "..|....");
        int[] counts = {6, 2, 3, 1, 4, 5, 7, 1, 2};
        for (int what = 0; what < 9; what++) {
            due("31: " + what, x.count(what), counts[what]);
        }
        due("31: what 9", x.count(9), OUTSIDE);
        due("31: what -1", x.count(-1), OUTSIDE);
    }

    private static void digest() {
        BorderThroughBed x = new BorderThroughBed();
        long h = 521L * 31;
        for (int what = 0; what < 9; what++) {
            h = 31 * h;
        }
        due("32: a new object", x.digest(), h);
        due("32: it changes nothing", x.digest(), h);
        x.letters('~');
        long letter = (521L * 31 * 31 + '~') * 31 * 31 * 31 * 31 * 31 * 31 * 31 + 1;
        due("32: a letter", x.digest(), letter * 31 * 31);
    }

    private static void digestOfAll() {
        BorderThroughBed x = Check.with("..|/d|#", "wa5-9h", "eb20-3o");
        x.event(6, 0, 2, 1, 3);
        x.thing(1, 0, 1);
        x.habit(0, 12);
        x.habit(1, 21);
        x.judgment(3, 1);
        x.letters('q');
        long[] numbers = {
            0, 0, 0, 2, 0, 0, 0, 2, 2, 0, NONE, 2, 1, 1, NONE, NONE,
            0, 0, 5, 9, 1, 1, 1, 20, 3, 4,
            6, 0, 2, 1, 3, 1,
            1, 0, 1, 1,
            0, 12, 1, 21, 1,
            3, 1, 0b0001111,
            'q', 4, 2, 1, 1, 2, 1, 1, 1, 0
        };
        long h = 521;
        for (long number : numbers) {
            h = 31 * h + number;
        }
        due("32: of all", x.digest(), h);
    }
}
