/** What all tests need: comparing an answer with the one that is due, and putting texts. */
final class Check {
    private final String name;
    private int done = 0;
    private int wrong = 0;

    Check(String name) {
        this.name = name;
    }

    void due(String call, long got, long want) {
        done++;
        if (got != want) {
            wrong++;
            System.out.println(name + ": " + call + " answered " + got + ", due is " + want);
        }
    }

    /** Ends the program with 1, if an answer was not the one that was due. */
    void end() {
        System.out.println(name + ": " + done + " answers, " + wrong + " of them wrong");
        if (wrong != 0) {
            System.exit(1);
        }
    }

    /** The number by which letters() takes a text of up to eight letters. */
    static long word(String text) {
        long w = 0;
        for (int i = 0; i < text.length(); i++) {
            w |= (long) text.charAt(i) << (8 * i);
        }
        return w;
    }

    /** Puts a text on THE PAGE, which is emptied ahead of it. */
    static void page(BorderThroughBed x, String text) {
        x.blank();
        for (int i = 0; i < text.length(); i += 8) {
            x.letters(word(text.substring(i, Math.min(text.length(), i + 8))));
        }
    }

    static int house(BorderThroughBed x, String text) {
        page(x, text);
        return x.house();
    }

    static int law(BorderThroughBed x, String text) {
        page(x, text);
        return x.law();
    }

    static int fault(BorderThroughBed x, int sort, String text) {
        page(x, text);
        return x.fault(sort);
    }

    static BorderThroughBed with(String house, String... laws) {
        BorderThroughBed x = new BorderThroughBed();
        house(x, house);
        for (String law : laws) {
            law(x, law);
        }
        return x;
    }
}
