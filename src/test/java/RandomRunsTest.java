/** Runs of calls, drawn by a fixed rule, with the class and the model side by side. */
public final class RandomRunsTest {
    private static final Check CHECK = new Check("RandomRunsTest");
    private static final int RUNS = 60;
    private static final int SMALL_RUNS = 30;
    private static final int CALLS = 512;
    private long seed;
    private BorderThroughBed x;
    private Model y;
    private int calls;
    private int run;
    /** What moves(0) told in the small runs: 0, 1, 2, NONE. */
    private final int[] told = new int[4];

    public static void main(String[] args) {
        int runs = args.length > 0 ? Integer.parseInt(args[0]) : RUNS;
        RandomRunsTest test = new RandomRunsTest();
        for (int run = 1; run <= runs; run++) {
            test.oneRun(run);
        }
        for (int run = 1; run <= SMALL_RUNS * runs; run++) {
            test.smallRun(run);
        }
        for (int i = 0; i < 4 && runs >= RUNS; i++) {
            CHECK.due("each answer of moves comes, " + i, test.told[i] > 0 ? 1 : 0, 1);
        }
        CHECK.end();
    }

    private int draw(int bound) {
        seed = seed * 6364136223846793005L + 1442695040888963407L;
        return (int) ((seed >>> 33) % bound);
    }

    /** Mostly a number below the bound, at times one that is not. */
    private int near(int bound) {
        int sort = draw(60);
        if (sort == 0) {
            return -1 - draw(2);
        }
        if (sort == 1) {
            return bound + draw(2);
        }
        if (sort == 2 && draw(4) == 0) {
            return draw(2) == 0 ? Integer.MAX_VALUE : Integer.MIN_VALUE;
        }
        return draw(Math.max(1, bound));
    }

    private void due(String call, long got, long want) {
        calls++;
        CHECK.due("run " + run + ", call " + calls + ": " + call, got, want);
    }

    private void oneRun(int number) {
        run = number;
        seed = number * 7919L;
        x = new BorderThroughBed();
        y = new Model();
        calls = 0;
        if (draw(8) != 0) {
            putHouse();
        }
        for (int laws = draw(9); laws > 0; laws--) {
            putLaw();
        }
        while (calls < CALLS - 12) {
            switch (draw(12)) {
                case 0: texts(); break;
                case 1: lawCalls(); break;
                case 2: case 3: case 4: acts(); break;
                case 5: case 6: case 7: things(); break;
                case 8: case 9: case 10: ways(); break;
                default: all(); break;
            }
        }
        due("digest", x.digest(), y.digest());
    }

    /** THINGS and HABITS of which a part is not KEPT, and moves() at once. */
    private void smallRun(int number) {
        run = -number;
        seed = number * 31337L;
        x = new BorderThroughBed();
        y = new Model();
        calls = 0;
        put(houseText(3, 5));
        due("house", x.house(), y.house());
        for (int laws = 1 + draw(6); laws > 0; laws--) {
            putLaw();
        }
        for (int things = 8; things > 0; things--) {
            int kind = draw(5) % 4;
            int cell = draw(y.count(0));
            int way = kind == 1 ? draw(4) : 0;
            due("thing", x.thing(kind, cell, way), y.thing(kind, cell, way));
        }
        for (int habits = 1 + draw(3); habits > 0; habits--) {
            int act = draw(6);
            int hour = draw(24);
            due("habit", x.habit(act, hour), y.habit(act, hour));
        }
        due("kept", x.kept(), y.kept());
        for (int what = 0; what < 5; what++) {
            due("moves " + what, x.moves(what), y.moves(what));
        }
        told[x.moves(0) & 3]++;
    }

    // ---- texts

    private String houseText(int mostRows, int mostColumns) {
        int rows = 2 + draw(mostRows - 1);
        int width = 2 + draw(mostColumns - 1);
        String cells = draw(3) == 0 ? "." : draw(2) == 0 ? "....#.d" : ".......#.d......";
        StringBuilder text = new StringBuilder();
        for (int row = 0; row < rows; row++) {
            int line = draw(width + 1);
            for (int column = 0; column <= width; column++) {
                text.append(column == line ? "|" : "");
                text.append(column < width ? "" + cells.charAt(draw(cells.length())) : "");
            }
            text.append(row + 1 < rows ? "/" : "");
        }
        return text.toString();
    }

    private String lawText() {
        String[] ends = {"", "h", "n", "f", "o"};
        return "" + "we".charAt(draw(2)) + "abcdef".charAt(draw(6)) + draw(24) + "-" + draw(24)
                + ends[draw(5)];
    }

    private String spoilt(String text, String letters) {
        int at = draw(text.length());
        char letter = letters.charAt(draw(letters.length()));
        int sort = draw(3);
        return text.substring(0, at) + (sort == 0 ? "" : "" + letter)
                + text.substring(sort == 2 ? at : at + 1);
    }

    private void put(String text) {
        due("blank", x.blank(), y.blank());
        for (int i = 0; i < text.length(); i += 8) {
            letters(Check.word(text.substring(i, Math.min(text.length(), i + 8))));
        }
    }

    private void letters(long w) {
        due("letters " + w, x.letters(w), y.letters(w));
    }

    private void putHouse() {
        String text = houseText(4, 6);
        put(draw(6) == 0 ? spoilt(text, ".#d|/x") : text);
        due("fault 0", x.fault(0), y.fault(0));
        due("house", x.house(), y.house());
    }

    private void putLaw() {
        String text = lawText();
        put(draw(6) == 0 ? spoilt(text, "0123456789-hnfoweab") : text);
        due("fault 1", x.fault(1), y.fault(1));
        due("law", x.law(), y.law());
    }

    private void texts() {
        switch (draw(12)) {
            case 0: letters((long) draw(1 << 30) << 34 ^ draw(1 << 30)); break;
            case 1: letters(draw(200)); break;
            case 2: letters(Check.word("wa1-2.|/")); break;
            case 3: int sort = near(2); due("fault", x.fault(sort), y.fault(sort)); break;
            case 4: due("house", x.house(), y.house()); break;
            case 5: due("law", x.law(), y.law()); break;
            case 6: if (draw(4) == 0) { putHouse(); } break;
            default: putLaw(); break;
        }
    }

    private void lawCalls() {
        int law = near(y.count(1));
        int what = near(5);
        due("lawTold " + law + " " + what, x.lawTold(law, what), y.lawTold(law, what));
        due("asLaw " + law + " " + what, x.asLaw(law, what), y.asLaw(law, what));
    }

    // ---- acts

    private int cell() {
        return near(y.count(0));
    }

    private void acts() {
        int act = near(6);
        int hour = near(24);
        int posture = near(3);
        int cell = cell();
        int way = near(4);
        int what = near(4);
        String told = " " + act + " " + hour + " " + posture + " " + cell + " " + way + " " + what;
        switch (draw(7)) {
            case 0: due("cell" + told, x.cell(cell, what), y.cell(cell, what)); break;
            case 1: due("part" + told, x.part(posture, cell, way, what),
                    y.part(posture, cell, way, what)); break;
            case 2: due("against" + told, x.against(act, hour, posture, cell, way),
                    y.against(act, hour, posture, cell, way)); break;
            case 3: due("event" + told, x.event(hour, act, posture, cell, way),
                    y.event(hour, act, posture, cell, way)); break;
            case 4: int first = near(2); due("first", x.first(first), y.first(first)); break;
            case 5: int sort = near(3); due("map" + told + sort, x.map(act, hour, posture, sort),
                    y.map(act, hour, posture, sort)); break;
            default: due("habit" + told, x.habit(act, hour), y.habit(act, hour)); break;
        }
    }

    // ---- things

    private void things() {
        int thing = near(y.count(3));
        int cell = cell();
        int what = near(4);
        int way = draw(3) == 0 ? near(4) : y.about(thing, 0) == 1 ? draw(4) : 0;
        String told = " " + thing + " " + cell + " " + what + " " + way;
        switch (draw(8)) {
            case 0: int kind = near(4); int to = kind == 1 ? near(4) : near(1);
                due("thing" + kind + told, x.thing(kind, cell, to), y.thing(kind, cell, to)); break;
            case 1: due("asThing" + told, x.asThing(thing, what), y.asThing(thing, what)); break;
            case 2: due("about" + told, x.about(thing, what), y.about(thing, what)); break;
            case 3: due("move" + told, x.move(thing, cell, way), y.move(thing, cell, way)); break;
            case 4: due("kept", x.kept(), y.kept()); break;
            case 5: if (draw(3) == 0) { moves(); } break;
            case 6: due("restore", x.restore(), y.restore()); break;
            default: due("whose" + told, x.whose(thing, what), y.whose(thing, what)); break;
        }
    }

    private void moves() {
        int what = near(5);
        due("moves " + what, x.moves(what), y.moves(what));
    }

    // ---- ways, all

    private void ways() {
        int from = cell();
        int to = cell();
        int toll = near(10);
        String told = " " + from + " " + to + " " + toll;
        switch (draw(7)) {
            case 0: due("steps" + told, x.steps(from, to), y.steps(from, to)); break;
            case 1: due("cheapest" + told, x.cheapest(from, to, toll), y.cheapest(from, to, toll));
                break;
            case 2: duty(); break;
            case 3: int by = near(7) - 3; due("drawn " + by, x.drawn(by), y.drawn(by)); break;
            case 4: int side = near(2);
                due("judgment" + told + side, x.judgment(from, side), y.judgment(from, side));
                break;
            default: due("fits", x.fits(), y.fits()); break;
        }
    }

    private void duty() {
        int value = near(1000);
        int free = near(100);
        int tenths = near(11);
        int walk = near(100) / (1 + draw(20));
        int what = near(2);
        due("duty " + value + " " + free + " " + tenths + " " + walk + " " + what,
                x.duty(value, free, tenths, walk, what), y.duty(value, free, tenths, walk, what));
    }

    private void all() {
        int what = near(9);
        switch (draw(4)) {
            case 0: due("count " + what, x.count(what), y.count(what)); break;
            case 1: due("digest", x.digest(), y.digest()); break;
            case 2: if (draw(4) == 0) { due("image", x.image(), y.image()); } break;
            default: due("digest", x.digest(), y.digest()); break;
        }
    }
}
