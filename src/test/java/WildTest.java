/**
 * Rule 7 of LANGUAGE.md: no call ever throws, whatever its arguments and in whatever state, also
 * behind the 512th, where the answers are free. That this test comes to its end is what it checks,
 * and, up to the 512th, that each answer is one that there can be at all.
 */
final class WildTest {
    private static final int OBJECTS = 60;
    private static final int CALLS = 12000;
    private static final int PROMISED = 512;
    private static final String TEXT = "kaeeess,cfneswn,lpnwnww,ajwswne";
    private static final int[] EXTREMES = {
        Integer.MIN_VALUE, Integer.MIN_VALUE + 1, -65536, -104, -31, -2, -1, 6, 7, 9, 10, 14, 15, 16, 20, 21,
        29, 30, 31, 32, 33, 63, 64, 126, 127, 65535, 65536, 1 << 24, 1 << 30, Integer.MAX_VALUE - 1, Integer.MAX_VALUE,
    };

    private final StickWays ways = new StickWays();
    private long state;

    private WildTest(long seed) {
        state = seed;
    }

    public static void main(String[] args) {
        for (int object = 1; object <= OBJECTS; object++) {
            new WildTest(object * 7919L).go();
        }
        Check.end();
    }

    private void go() {
        for (int call = 1; call <= CALLS; call++) {
            int which = draw(26);
            boolean writes = which >= 23 || takesAway(which) && draw(60) > 0;
            long answer = writes ? write() : answer(which, argument(), argument(), argument());
            if (call <= PROMISED) {
                Check.due("answer " + answer + " of call " + which, which == 22 || canBe(answer));
            }
        }
    }

    /** These are seldom called, so that much comes together in between. */
    private static boolean takesAway(int which) {
        return which == 1 || which == 3 || which == 15 || which == 20;
    }

    /** The largest answer is a seed, any int from 0 on. */
    private static boolean canBe(long answer) {
        return answer >= StickWays.NONE || answer <= StickWays.UNKNOWN && answer >= StickWays.FULL;
    }

    private int draw(int below) {
        state = state * 6364136223846793005L + 1442695040888963407L;
        return (int) ((state >>> 33) % below);
    }

    private int argument() {
        switch (draw(4)) {
            case 0: return EXTREMES[draw(EXTREMES.length)];
            case 1: return (int) (state >>> 16);
            default: return draw(8);
        }
    }

    /** The next letter of hills, or what there is of them is read. */
    private long write() {
        int next = ways.count(6);
        return next < TEXT.length() && draw(40) > 0 ? ways.letter(TEXT.charAt(next)) : ways.hills();
    }

    private long answer(int which, int a, int b, int c) {
        switch (which) {
            case 0: return ways.letter(draw(8) == 0 ? a : 0);
            case 1: return ways.blank();
            case 2: return ways.fault();
            case 3: return ways.hills();
            case 4: return ways.stick(a, b);
            case 5: return ways.as(a, b);
            case 6: return ways.at(a, b);
            case 7: return ways.meet(a, b);
            case 8: return ways.late(a, b);
            case 9: return ways.cut(a, b);
            case 10: return ways.saw(a, b);
            case 11: return ways.later(a, b);
            case 12: return ways.cover(a, b);
            case 13: return ways.catches(a, b);
            case 14: return ways.see(a, b);
            case 15: return ways.forget();
            case 16: return ways.whose();
            case 17: return ways.look();
            case 18: return ways.mornings(a, b, c);
            case 19: return ways.image();
            case 20: return ways.restore();
            case 21: return ways.count(a);
            default: return ways.digest();
        }
    }
}
