import java.util.HashSet;
import java.util.Set;
import java.util.regex.Pattern;

/** Promises 4, 6 to 8: the text of a LAW, what a LAW tells, its KINDS. */
final class LawEdges extends Edges {
    private static final String HOUR = "(\\d|1\\d|2[0-3])";
    private static final Pattern LAW_START = Pattern.compile(
            ".." + HOUR + "?|.." + HOUR + "-(" + HOUR + "[hnfo]?)?");
    private static final String[] COUNTS = {"", "h", "n", "f", "o"};
    private static final String[] EIGHT = {"wa0-1", "eb1-2h", "wc2-3n", "ed3-4f", "we4-5o", "ef5-6",
        "wa22-23h", "ef23-0o"};

    static void run() {
        sides();
        acts();
        hours();
        dash();
        counts();
        everyLaw();
        lawNumbers();
        lawFull();
        lawRefused();
        toldWhat();
        toldUnknown();
        asKind();
        asUnknown();
    }

    private static void isLaw(String text, int side, int act, int from, int to, int kind) {
        BorderThroughBed x = paged(text);
        due(text, x.law(), 0);
        int[] told = {side, act, from, to, kind};
        for (int what = 0; what < 5; what++) {
            due(text + ", lawTold(0, " + what + ")", x.lawTold(0, what), told[what]);
        }
        due(text + " had no fault", paged(text).fault(1), text.length());
    }

    private static void isNone(String text) {
        BorderThroughBed x = paged(text);
        due(text, x.law(), STATE);
        due(text + " leaves all as it was", x.digest(), pageDigest(text));
    }

    private static void sides() {
        says(6, "\"w\" or \"e\" (the SIDE whose it is), an ACT (\"a\" to \"f\"),");
        isLaw("wa1-2", 0, 0, 1, 2, 0);
        isLaw("ea1-2", 1, 0, 1, 2, 0);
        for (char letter = 1; letter <= 126; letter++) {
            if (letter != 'w' && letter != 'e') {
                isNone(letter + "a1-2");
            }
        }
        isNone("");
        isNone("a1-2");
        isNone("wea1-2");
    }

    private static void acts() {
        says(6, "an ACT (\"a\" to \"f\"),");
        for (char letter = 1; letter <= 126; letter++) {
            if (letter >= 'a' && letter <= 'f') {
                isLaw("w" + letter + "1-2", 0, letter - 'a', 1, 2, 0);
            } else {
                isNone("w" + letter + "1-2");
            }
        }
        isNone("w");
        isNone("w1-2");
        isNone("wab1-2");
    }

    private static void hours() {
        says(6, "FROM (\"0\" to \"23\", without a 0 ahead), \"-\", TO (likewise),");
        for (int hour = 0; hour <= 1000; hour++) {
            if (hour <= 23) {
                isLaw("eb" + hour + "-4n", 1, 1, hour, 4, 2);
                isLaw("eb4-" + hour + "n", 1, 1, 4, hour, 2);
                isLaw("wc23-" + hour, 0, 2, 23, hour, 0);
            } else {
                isNone("eb" + hour + "-4n");
                isNone("eb4-" + hour + "n");
                isNone("eb4-" + hour);
            }
            if (hour < 100) {
                isNone("eb0" + hour + "-4n");
                isNone("eb4-0" + hour + "n");
                isNone("eb4-0" + hour);
            }
        }
        String[] others = {"", "000", "-1", "+1", " 1", "1 ", "a", "2147483647", "2147483648",
            "4294967296", "4294967297", "1.", "1a"};
        for (String other : others) {
            isNone("eb" + other + "-4n");
            isNone("eb4-" + other + "n");
        }
    }

    private static void dash() {
        says(6, "\"-\", TO (likewise),");
        isNone("wa1");
        isNone("wa1-");
        isNone("wa-2");
        isNone("wa-");
        isNone("wa1--2");
        isNone("wa1-2-");
        isNone("wa12h");
        for (char letter = 1; letter <= 126; letter++) {
            if (letter != '-') {
                isNone("wa1" + letter + "2");
            }
        }
    }

    private static void counts() {
        says(6, "and what counts: \"h\" HEAD, \"n\" HANDS, \"f\" FEET, \"o\" the DOOR, or nothing.");
        for (int kind = 0; kind < 5; kind++) {
            isLaw("wa23-23" + COUNTS[kind], 0, 0, 23, 23, kind);
            isLaw("ef0-0" + COUNTS[kind], 1, 5, 0, 0, kind);
            for (int second = 1; kind > 0 && second < 5; second++) {
                isNone("wa0-0" + COUNTS[kind] + COUNTS[second]);
            }
        }
        for (char letter = 1; letter <= 126; letter++) {
            if ("hnfo".indexOf(letter) < 0) {
                isNone("wa23-23" + letter);
            }
            isNone("wa23-23h" + letter);
        }
        isNone("wa1h-2");
        isNone("wa1-h");
    }

    /** Whatever a LAW begins with, with every letter behind it. */
    private static void everyLaw() {
        says(4, "The place (from 0) of the first letter of THE PAGE that no HOUSE (sort 0), LAW (1) "
                + "has there, behind those ahead of it; how many letters it has, if there is none.");
        Set<String> laws = new HashSet<>();
        Set<String> starts = new HashSet<>();
        for (int i = 0; i < 24 * 24 * 5; i++) {
            String law = (i % 2 == 0 ? "wa" : "ef") + i / 5 / 24 + "-" + i / 5 % 24 + COUNTS[i % 5];
            laws.add(law);
            for (int end = 2; end <= law.length(); end++) {
                starts.add(law.substring(0, end));
            }
        }
        for (String start : starts) {
            if (start.matches("..[0-9]+-[0-9]+")) {
                laws.add(start);
            }
            due("is a LAW: " + start, paged(start).law(), laws.contains(start) ? 0 : STATE);
        }
        for (String start : starts) {
            for (char letter = 1; letter <= 126; letter++) {
                if (!LAW_START.matcher(start + letter).matches()) {
                    due("fault: " + start + letter, paged(start + letter).fault(1), start.length());
                }
            }
            due("fault: " + start, paged(start).fault(1), start.length());
        }
    }

    // ---- law

    private static BorderThroughBed eight() {
        return with("|../|..", EIGHT);
    }

    private static void lawNumbers() {
        says(6, "THE PAGE is read as a LAW: its number;");
        BorderThroughBed x = new BorderThroughBed();
        for (int law = 0; law < 8; law++) {
            due("without a HOUSE", Check.law(x, EIGHT[law]), law);
            due("how many", x.count(1), law + 1);
        }
        read(x, "|../|..");
        due("a HOUSE leaves them", x.lawTold(7, 2), 23);
        says(6, "THE PAGE is empty then.");
        BorderThroughBed y = paged("wa1-2");
        y.law();
        due("letters", y.count(6), 0);
        due("letters begin anew", y.letters('a'), 1);
        due("no second LAW", y.law(), STATE);
    }

    private static BorderThroughBed fullWith(String text) {
        BorderThroughBed x = full();
        Check.page(x, text);
        return x;
    }

    private static void lawFull() {
        says(6, "LAWS (8 at most, numbered) are texts:");
        BorderThroughBed x = with("|../|..");
        for (int law = 0; law < 8; law++) {
            due("the LAW " + law, Check.law(x, EIGHT[law]), law);
        }
        says(6, "FULL.");
        refused("a ninth", () -> fullWith("wa1-2"), y -> y.law(), FULL);
        refused("a ninth that is told already", () -> fullWith("ef0-9"), y -> y.law(), FULL);
        says(6, "STATE: it is none; FULL.");
        refused("a ninth that is none", () -> fullWith("wa1-24"), y -> y.law(), STATE);
        refused("a ninth of an empty page", () -> fullWith(""), y -> y.law(), STATE);
    }

    private static void lawRefused() {
        says(6, "STATE: it is none;");
        refused("an empty page", () -> someWith(""), x -> x.law(), STATE);
        refused("no LAWS yet, an empty page", BorderThroughBed::new, x -> x.law(), STATE);
        refused("a HOUSE", () -> someWith("|../|.."), x -> x.law(), STATE);
        refused("a letter less", () -> someWith("wa1-"), x -> x.law(), STATE);
        refused("a letter more", () -> someWith("wa1-2hh"), x -> x.law(), STATE);
        refused("a full page", () -> someWith("q".repeat(40)), x -> x.law(), STATE);
        refused("two LAWS", () -> someWith("wa1-2wa1-2"), x -> x.law(), STATE);
    }

    // ---- lawTold, asLaw

    private static void toldWhat() {
        says(7, "Of a LAW: what = 0 SIDE, 1 ACT (0 to 5), 2 FROM, 3 TO, 4 KIND.");
        int[][] told = {{0, 0, 0, 1, 0}, {1, 1, 1, 2, 1}, {0, 2, 2, 3, 2}, {1, 3, 3, 4, 3},
            {0, 4, 4, 5, 4}, {1, 5, 5, 6, 0}, {0, 0, 22, 23, 1}, {1, 5, 23, 0, 4}};
        BorderThroughBed x = eight();
        for (int law = 0; law < 8; law++) {
            for (int what = 0; what < 5; what++) {
                due("lawTold(" + law + ", " + what + ")", x.lawTold(law, what), told[law][what]);
            }
        }
        says(7, "OUTSIDE.");
        range("lawTold(0, n)", Edges::some, (y, n) -> y.lawTold(0, n), 0, 4, OUTSIDE);
        range("lawTold(7, n)", LawEdges::eight, (y, n) -> y.lawTold(7, n), 0, 4, OUTSIDE);
    }

    private static void toldUnknown() {
        says(7, "UNKNOWN;");
        range("lawTold(n, 4) of 8", LawEdges::eight, (x, n) -> x.lawTold(n, 4), 0, 7, UNKNOWN);
        range("lawTold(n, 0) of 5", Edges::some, (x, n) -> x.lawTold(n, 0), 0, 4, UNKNOWN);
        range("lawTold(n, 0) of 1", Edges::bare, (x, n) -> x.lawTold(n, 0), 0, 0, UNKNOWN);
        onlyBeyond("lawTold(n, 0) of none", BorderThroughBed::new, (x, n) -> x.lawTold(n, 0), 0, -1,
                UNKNOWN);
        says(7, "UNKNOWN; OUTSIDE.");
        refused("both", Edges::some, x -> x.lawTold(5, 5), UNKNOWN);
        refused("both, below", Edges::some, x -> x.lawTold(-1, -1), UNKNOWN);
        refused("both, no LAWS", BorderThroughBed::new, x -> x.lawTold(0, 5), UNKNOWN);
    }

    private static void asKind() {
        says(8, "A LAW taken as a KIND: its own number (not that of the KIND);");
        BorderThroughBed x = with("|../|..", "wa1-2o", "wa1-2f", "wa1-2n", "wa1-2h", "wa1-2");
        int[] kinds = {4, 3, 2, 1, 0};
        for (int law = 0; law < 5; law++) {
            due(law + " as its own KIND", x.asLaw(law, kinds[law]), law);
            due(law + " as a LAW", x.asLaw(law, 0), law);
        }
        says(8, "All are LAWS; a FEET is a HEAD, too");
        due("a FEET as a HEAD", x.asLaw(1, 1), 1);
        due("a HEAD as a FEET", x.asLaw(3, 3), NONE);
        says(8, "NONE: it is none such (the cast fails).");
        for (int law = 0; law < 5; law++) {
            for (int kind = 1; kind < 5; kind++) {
                if (kind != kinds[law] && (law != 1 || kind != 1)) {
                    due(law + " as " + kind, x.asLaw(law, kind), NONE);
                }
            }
        }
    }

    private static void asUnknown() {
        says(8, "OUTSIDE.");
        onlyBeyond("asLaw(0, n)", Edges::some, (x, n) -> x.asLaw(0, n), 0, 4, OUTSIDE);
        onlyBeyond("asLaw(7, n)", LawEdges::eight, (x, n) -> x.asLaw(7, n), 0, 4, OUTSIDE);
        says(8, "UNKNOWN;");
        range("asLaw(n, 0) of 8", LawEdges::eight, (x, n) -> x.asLaw(n, 0), 0, 7, UNKNOWN);
        range("asLaw(n, 0) of 5", Edges::some, (x, n) -> x.asLaw(n, 0), 0, 4, UNKNOWN);
        onlyBeyond("asLaw(n, 0) of none", BorderThroughBed::new, (x, n) -> x.asLaw(n, 0), 0, -1,
                UNKNOWN);
        says(8, "UNKNOWN; OUTSIDE.");
        refused("both", Edges::some, x -> x.asLaw(5, 5), UNKNOWN);
        refused("both, below", Edges::some, x -> x.asLaw(-1, -1), UNKNOWN);
        refused("both, no LAWS", BorderThroughBed::new, x -> x.asLaw(0, 5), UNKNOWN);
    }
}
