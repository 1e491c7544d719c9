/** What all tests share: comparing answers, writing hills on the page, ending with an exit code. */
final class Check {
    static final int NONE = StickWays.NONE;
    static final int UNKNOWN = StickWays.UNKNOWN;
    static final int OUTSIDE = StickWays.OUTSIDE;
    static final int STATE = StickWays.STATE;
    static final int FULL = StickWays.FULL;
    /** Numbers that are wrong for every argument but "steps", "code" and "many", "seed". */
    static final int[] WRONG = {-1, Integer.MIN_VALUE, Integer.MAX_VALUE, 1 << 16, 65537};

    private static int checks = 0;
    private static int wrong = 0;

    private Check() {
    }

    static void due(String what, long got, long want) {
        checks++;
        if (got != want) {
            wrong++;
            System.out.println(what + " answered " + got + ", due is " + want);
        }
    }

    static void due(String what, boolean holds) {
        due(what, holds ? 1 : 0, 1);
    }

    static void write(StickWays ways, String text) {
        for (int i = 0; i < text.length(); i++) {
            ways.letter(text.charAt(i));
        }
    }

    /** A new object that has read these hills. */
    static StickWays of(String text) {
        StickWays ways = new StickWays();
        write(ways, text);
        due("hills() of " + text, ways.hills(), text.split(",").length);
        return ways;
    }

    /** A new object with these letters on its page. */
    static StickWays page(String text) {
        StickWays ways = new StickWays();
        write(ways, text);
        return ways;
    }

    /** Where a stick is at the hours from 0 on, as many as are given. */
    static void walk(String what, StickWays ways, int stick, int... places) {
        for (int hour = 0; hour < places.length; hour++) {
            due(what + ": at(" + stick + ", " + hour + ")", ways.at(stick, hour), places[hour]);
        }
        int end = places[places.length - 1];
        for (int hour = places.length; hour <= 30; hour++) {
            due(what + ": at(" + stick + ", " + hour + ")", ways.at(stick, hour), end);
        }
    }

    /** Counts and digest, to see that a refused call changed nothing. */
    static long[] told(StickWays ways) {
        long[] told = new long[9];
        for (int what = 0; what < 8; what++) {
            told[what] = ways.count(what);
        }
        told[8] = ways.digest();
        return told;
    }

    static void unchanged(String what, StickWays ways, long[] before) {
        due(what + " changes nothing", java.util.Arrays.equals(told(ways), before));
    }

    static void end() {
        System.out.println(checks + " answers checked, " + wrong + " wrong");
        if (wrong != 0 || checks == 0) {
            System.exit(1);
        }
    }
}
