/** Promises 1 to 3: a new object, letters, blank. */
final class PageEdges extends Edges {
    private static final int ROOM = 40;

    static void run() {
        newObject();
        lettersUntilZero();
        lettersByTheirCodes();
        lettersOutside();
        lettersBehindZero();
        lettersFull();
        lettersOutsideAheadOfFull();
        blank();
    }

    private static void newObject() {
        says(1, "No HOUSE, no LAWS.");
        for (int what = 0; what <= 8; what++) {
            due("count(" + what + ")", new BorderThroughBed().count(what), 0);
        }
        due("cell", new BorderThroughBed().cell(0, 0), UNKNOWN);
        due("lawTold", new BorderThroughBed().lawTold(0, 0), UNKNOWN);
        due("fits", new BorderThroughBed().fits(), STATE);
        due("image", new BorderThroughBed().image(), STATE);
        due("restore", new BorderThroughBed().restore(), STATE);
        due("digest", new BorderThroughBed().digest(), pageDigest(""));
        BorderThroughBed other = full();
        due("another object has all", other.count(1), 8);
        due("a new one beside it has nothing", new BorderThroughBed().digest(), pageDigest(""));
    }

    private static void lettersUntilZero() {
        says(2, "Letters come behind THE PAGE, up to eight, told by their codes in the bytes of w, "
                + "the lowest byte first, until a byte that is 0: how many THE PAGE has.");
        for (int more = 0; more <= 8; more++) {
            String text = "abcdefgh".substring(0, more);
            BorderThroughBed x = new BorderThroughBed();
            due(text, x.letters(Check.word(text)), more);
            due(text + ", the page", x.digest(), pageDigest(text));
            due(text + " once more", x.letters(Check.word(text)), 2 * more);
            due(text + " once more, the page", x.digest(), pageDigest(text + text));
        }
    }

    private static void lettersByTheirCodes() {
        says(2, "Letters come behind THE PAGE");
        for (int place = 0; place < 8; place++) {
            for (int code = 1; code <= 126; code++) {
                String text = "a".repeat(place) + (char) code;
                BorderThroughBed x = paged("z");
                due("code " + code + " as letter " + place, x.letters(Check.word(text)), place + 2);
                due("code " + code + " as letter " + place + ", the page", x.digest(),
                        pageDigest("z" + text));
            }
        }
    }

    private static long withByte(long w, int place, long code) {
        return w & ~(255L << 8 * place) | code << 8 * place;
    }

    private static void lettersOutside() {
        says(2, "OUTSIDE: a byte above 126,");
        long all = Check.word("aaaaaaaa");
        for (int place = 0; place < 8; place++) {
            long ahead = Check.word("a".repeat(place));
            for (int code = 127; code <= 255; code++) {
                long last = withByte(ahead, place, code);
                long amid = withByte(all, place, code);
                refused("letters " + last, Edges::some, x -> x.letters(last), OUTSIDE);
                refused("letters " + amid, Edges::some, x -> x.letters(amid), OUTSIDE);
            }
        }
        long[] whole = {-1L, Long.MIN_VALUE, Long.MIN_VALUE + 1, Long.MAX_VALUE,
            Integer.MIN_VALUE, Integer.MAX_VALUE, 127L, 128L, 255L};
        for (long w : whole) {
            refused("letters " + w, BorderThroughBed::new, x -> x.letters(w), OUTSIDE);
        }
    }

    private static void lettersBehindZero() {
        says(2, "or one behind a 0 that is not 0;");
        for (int zero = 0; zero < 7; zero++) {
            for (int place = zero + 1; place < 8; place++) {
                for (int code : new int[] {1, 'a', 126, 127, 255}) {
                    long w = withByte(Check.word("a".repeat(zero)), place, code);
                    refused("letters " + w, Edges::some, x -> x.letters(w), OUTSIDE);
                }
            }
            long gap = withByte(Check.word("aaaaaaaa"), zero, 0);
            refused("letters " + gap, Edges::some, x -> x.letters(gap), OUTSIDE);
        }
    }

    private static void lettersFull() {
        says(2, "FULL: above 40.");
        for (int had = 0; had <= ROOM; had++) {
            String text = "b".repeat(had);
            for (int more = 0; more <= 8; more++) {
                String behind = "cdefghij".substring(0, more);
                if (had + more > ROOM) {
                    refused(more + " behind " + had, () -> paged(text),
                            x -> x.letters(Check.word(behind)), FULL);
                } else {
                    BorderThroughBed x = paged(text);
                    due(more + " behind " + had, x.letters(Check.word(behind)), had + more);
                    due(more + " behind " + had + ", the page", x.digest(),
                            pageDigest(text + behind));
                }
            }
        }
        refused("with all else full, too", Edges::full, x -> x.letters('a'), FULL);
    }

    private static void lettersOutsideAheadOfFull() {
        says(2, "OUTSIDE: a byte above 126, or one behind a 0 that is not 0; FULL: above 40.");
        refused("127 on a full page", Edges::full, x -> x.letters(127L), OUTSIDE);
        refused("behind a 0 on a full page", Edges::full, x -> x.letters(0x6100L), OUTSIDE);
        refused("all bytes 255 on a full page", Edges::full, x -> x.letters(-1L), OUTSIDE);
    }

    private static void blank() {
        says(3, "THE PAGE is empty: how many letters it had.");
        for (int had : new int[] {0, 1, 2, 8, 39, ROOM}) {
            BorderThroughBed x = paged("b".repeat(had));
            due("had " + had, x.blank(), had);
            due("had " + had + ", it is empty", x.digest(), pageDigest(""));
            due("had " + had + ", once more", x.blank(), 0);
            due("had " + had + ", letters begin anew", x.letters(Check.word("cd")), 2);
            due("had " + had + ", none of the old ones", x.digest(), pageDigest("cd"));
        }
        BorderThroughBed x = full();
        BorderThroughBed y = full();
        due("of all that is full", x.blank(), ROOM);
        due("the page alone is empty", x.count(2) + x.count(3) + x.count(4) + x.count(5),
                y.count(2) + y.count(3) + y.count(4) + y.count(5));
    }
}
