/** Promises 10 to 14: parts, AGAINST, EVENTS, MAP. */
public final class ActsTest {
    private static final int NONE = -1, UNKNOWN = -101, OUTSIDE = -102, STATE = -103, FULL = -104;
    private static final Check CHECK = new Check("ActsTest");

    private static void due(String call, long got, long want) {
        CHECK.due(call, got, want);
    }

    public static void main(String[] args) {
        part();
        partRefused();
        hours();
        whatCounts();
        againstRefused();
        event();
        first();
        map();
        CHECK.end();
    }

    /** Cells 0 "." 1 "." 2 "#", 3 "d" 4 "." 5 ".". */
    private static void part() {
        BorderThroughBed x = Check.with(".|.#/|d..");
        int[][] right = {{0, 1, 0, 0}, {0, 0, 1, 1}, {0, 0, 0, 1}};
        int[][] down = {{1, 4, 1, 1}, {1, 1, 4, 4}, {1, 1, 1, 4}};
        for (int posture = 0; posture < 3; posture++) {
            for (int part = 0; part < 4; part++) {
                due("10: right " + posture + " " + part, x.part(posture, 0, 1, part),
                        right[posture][part]);
                due("10: down " + posture + " " + part, x.part(posture, 1, 2, part),
                        down[posture][part]);
            }
        }
        due("10: a wall is ahead", x.part(0, 1, 1, 1), 1);
        due("10: nothing is ahead, up", x.part(0, 0, 0, 1), 0);
        due("10: nothing is ahead, left", x.part(1, 3, 3, 2), 3);
        due("10: nothing is ahead, right", x.part(2, 5, 1, 3), 5);
        due("10: nothing is ahead, down", x.part(0, 4, 2, 1), 4);
        due("10: a door is ahead", x.part(0, 4, 3, 1), 3);
        due("10: up", x.part(1, 4, 0, 3), 1);
    }

    private static void partRefused() {
        BorderThroughBed none = new BorderThroughBed();
        due("10: no house", none.part(0, 0, 0, 0), UNKNOWN);
        BorderThroughBed x = Check.with(".|.#/|d..");
        due("10: a wall", x.part(0, 2, 0, 0), UNKNOWN);
        due("10: cell 6", x.part(0, 6, 0, 0), UNKNOWN);
        due("10: cell -1", x.part(0, -1, 0, 0), UNKNOWN);
        due("10: posture 3", x.part(3, 0, 0, 0), OUTSIDE);
        due("10: posture -1", x.part(-1, 0, 0, 0), OUTSIDE);
        due("10: way 4", x.part(0, 0, 4, 0), OUTSIDE);
        due("10: way -1", x.part(0, 0, -1, 0), OUTSIDE);
        due("10: part 4", x.part(0, 0, 0, 4), OUTSIDE);
        due("10: part -1", x.part(0, 0, 0, -1), OUTSIDE);
        due("10: UNKNOWN first", x.part(3, 2, 4, 4), UNKNOWN);
    }

    private static void hours() {
        BorderThroughBed x = Check.with("|../|..", "wa5-8", "ea22-3", "wa7-7", "wb5-8");
        for (int hour = 0; hour < 24; hour++) {
            int bits = 4;
            bits |= hour >= 5 && hour < 8 ? 1 : 0;
            bits |= hour >= 22 || hour < 3 ? 2 : 0;
            due("11: at " + hour, x.against(0, hour, 0, 0, 0), bits);
        }
        due("11: another act", x.against(1, 6, 0, 0, 0), 8);
        due("11: an act without laws", x.against(2, 6, 0, 0, 0), 0);
    }

    /** A row of two cells on each side, with the door in the east. */
    private static void whatCounts() {
        String[] laws = {"wa0-0", "ea0-0h", "ea0-0n", "ea0-0f", "ea0-0o", "wa0-0h", "wa0-0f",
            "wa0-0o"};
        BorderThroughBed x = Check.with("..|.d/..|##", laws);
        due("11: stands in the west, hands in the east", x.against(0, 0, 0, 1, 1),
                1 | 4 | 16 | 32 | 64);
        due("11: lies over the line", x.against(0, 0, 1, 1, 1), 1 | 16 | 32);
        due("11: strides over the line", x.against(0, 0, 2, 1, 1), 1 | 16 | 32);
        due("11: strides in the west", x.against(0, 0, 2, 1, 3), 1 | 16 | 32 | 64);
        due("11: lies from the east", x.against(0, 0, 1, 2, 3), 1 | 2 | 4 | 16);
        due("11: lies in the east", x.against(0, 0, 1, 2, 1), 1 | 2 | 4 | 8 | 16);
        due("11: lies towards a wall", x.against(0, 0, 1, 2, 2), 1 | 2 | 4 | 8 | 16);
        BorderThroughBed y = Check.with("..|.#/##|#d", laws);
        due("11: without a door, west", y.against(0, 0, 0, 0, 0), 1 | 32 | 64 | 128);
        due("11: without a door, east", y.against(0, 0, 0, 2, 0), 1 | 2 | 4 | 8 | 16);
        BorderThroughBed z = Check.with("d.|.d/...|.", laws);
        due("11: the nearest door of the west", z.against(0, 0, 0, 1, 3), 1 | 32 | 64 | 128);
        due("11: the nearest door of the east", z.against(0, 0, 0, 2, 0), 1 | 2 | 4 | 8 | 16);
    }

    private static void againstRefused() {
        BorderThroughBed none = new BorderThroughBed();
        due("11: no house", none.against(0, 0, 0, 0, 0), UNKNOWN);
        BorderThroughBed x = Check.with("|.#/|..");
        due("11: a wall", x.against(0, 0, 0, 1, 0), UNKNOWN);
        due("11: cell 4", x.against(0, 0, 0, 4, 0), UNKNOWN);
        due("11: cell -1", x.against(0, 0, 0, -1, 0), UNKNOWN);
        due("11: act 6", x.against(6, 0, 0, 0, 0), OUTSIDE);
        due("11: act -1", x.against(-1, 0, 0, 0, 0), OUTSIDE);
        due("11: hour 24", x.against(0, 24, 0, 0, 0), OUTSIDE);
        due("11: hour -1", x.against(0, -1, 0, 0, 0), OUTSIDE);
        due("11: posture 3", x.against(0, 0, 3, 0, 0), OUTSIDE);
        due("11: posture -1", x.against(0, 0, -1, 0, 0), OUTSIDE);
        due("11: way 4", x.against(0, 0, 0, 0, 4), OUTSIDE);
        due("11: way -1", x.against(0, 0, 0, 0, -1), OUTSIDE);
        due("11: UNKNOWN first", x.against(6, 24, 3, 1, 4), UNKNOWN);
        due("11: no laws", x.against(5, 23, 2, 3, 3), 0);
    }

    private static void event() {
        BorderThroughBed none = new BorderThroughBed();
        due("12: no house", none.event(0, 0, 0, 0, 0), UNKNOWN);
        BorderThroughBed x = Check.with("|.#/|..");
        due("12: a wall", x.event(0, 0, 0, 1, 0), UNKNOWN);
        due("12: hour 24", x.event(24, 0, 0, 0, 0), OUTSIDE);
        due("12: act 6", x.event(0, 6, 0, 0, 0), OUTSIDE);
        due("12: posture 3", x.event(0, 0, 3, 0, 0), OUTSIDE);
        due("12: way 4", x.event(0, 0, 0, 0, 4), OUTSIDE);
        due("12: hour -1", x.event(-1, 0, 0, 0, 0), OUTSIDE);
        due("12: UNKNOWN first", x.event(24, 6, 3, 1, 4), UNKNOWN);
        for (int event = 0; event < 12; event++) {
            due("12: event " + event, x.event(23, 5, 2, 3, 3), event);
        }
        due("12: a thirteenth", x.event(0, 0, 0, 0, 0), FULL);
        due("12: UNKNOWN ahead of FULL", x.event(0, 0, 0, 1, 0), UNKNOWN);
        due("12: OUTSIDE ahead of FULL", x.event(24, 0, 0, 0, 0), OUTSIDE);
        due("12: twelve", x.count(2), 12);
    }

    private static void first() {
        BorderThroughBed x = new BorderThroughBed();
        due("13: no house", x.first(0), NONE);
        due("13: what 2", x.first(2), OUTSIDE);
        due("13: what -1", x.first(-1), OUTSIDE);
        Check.house(x, "|../|..");
        Check.law(x, "wc0-0");
        Check.law(x, "wa0-0");
        Check.law(x, "ea0-0h");
        due("13: no events", x.first(1), NONE);
        x.event(1, 1, 0, 0, 0);
        due("13: against nothing", x.first(0), NONE);
        due("13: against nothing, law", x.first(1), NONE);
        x.event(9, 2, 0, 0, 0);
        due("13: the only one", x.first(0), 1);
        due("13: its law", x.first(1), 0);
        x.event(7, 0, 0, 0, 0);
        x.event(7, 2, 0, 0, 0);
        x.event(8, 2, 0, 0, 0);
        due("13: the least hour, the least number", x.first(0), 2);
        due("13: the least law", x.first(1), 1);
        BorderThroughBed y = Check.with(".|./.|.", "wa0-0", "eb0-0f");
        y.event(3, 0, 0, 0, 0);
        y.event(3, 0, 0, 0, 0);
        due("13: the first of all", y.first(0), 0);
        BorderThroughBed z = Check.with(".|./.|.", "wa0-0h", "eb0-0f");
        z.event(3, 1, 1, 1, 3);
        z.event(4, 1, 0, 1, 3);
        due("13: as each one lies or stands", z.first(0), 1);
        due("13: the law of it", z.first(1), 1);
    }

    private static void map() {
        BorderThroughBed x = new BorderThroughBed();
        due("14: no house", x.map(0, 0, 0, 0), STATE);
        due("14: STATE first", x.map(6, 24, 3, 3), STATE);
        Check.house(x, "..|.#/..|.d");
        Check.law(x, "ea0-12n");
        Check.law(x, "eb0-0h");
        due("14: by no way", x.map(0, 0, 0, 0), 2);
        due("14: by some", x.map(0, 0, 0, 1), 4);
        due("14: by all", x.map(0, 0, 0, 2), 1);
        due("14: another hour", x.map(0, 12, 0, 0), 7);
        due("14: another posture, none", x.map(0, 0, 1, 0), 4);
        due("14: another posture, all", x.map(0, 0, 1, 2), 3);
        due("14: head", x.map(1, 5, 2, 2), 3);
        due("14: what 3", x.map(0, 0, 0, 3), OUTSIDE);
        due("14: what -1", x.map(0, 0, 0, -1), OUTSIDE);
        due("14: act 6", x.map(6, 0, 0, 0), OUTSIDE);
        due("14: hour 24", x.map(0, 24, 0, 0), OUTSIDE);
        due("14: posture 3", x.map(0, 0, 3, 0), OUTSIDE);
    }
}
