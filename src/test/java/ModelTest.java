/** Long runs of drawn calls, each answered by the program as by Model. */
final class ModelTest {
    private static final int RUNS = 400;
    private static final int CALLS = 512;
    private static final String[] NAMES = {
        "letter", "blank", "fault", "hills", "stick", "as", "at", "meet", "late", "cut", "saw",
        "later", "cover", "catches", "see", "forget", "whose", "look", "mornings", "image",
        "restore", "count", "digest",
    };
    private static final int[] ODD = {-1, 17, 64, 65536, Integer.MIN_VALUE, Integer.MAX_VALUE};

    private long state;
    private final StickWays ways = new StickWays();
    private final Model model = new Model();
    private int calls = 0;

    private ModelTest(long seed) {
        state = seed * 2654435761L + 1;
    }

    public static void main(String[] args) {
        for (int run = 1; run <= RUNS; run++) {
            new ModelTest(run).go(run);
        }
        Check.end();
    }

    private void go(int run) {
        while (calls < CALLS) {
            if (draw(14) == 0) {
                write(run);
            } else {
                String name = NAMES[draw(NAMES.length)];
                // Seldom these two, so that much is seen and changed in between.
                if (!name.equals("forget") && !name.equals("restore") || draw(4) == 0) {
                    compare(run, name, argument(name, 0), argument(name, 1), argument(name, 2));
                }
            }
        }
    }

    private int draw(int below) {
        state = state * 6364136223846793005L + 1442695040888963407L;
        return (int) ((state >>> 33) % below);
    }

    private void write(int run) {
        compare(run, "blank", 0, 0, 0);
        StringBuilder text = new StringBuilder();
        int sticks = 1 + draw(4);
        for (int stick = 0; stick < sticks; stick++) {
            text.append(stick > 0 ? "," : "").append("kclxa".charAt(draw(5)));
            text.append((char) ('a' + draw(16)));
            int steps = draw(3) == 0 ? 1 + draw(5) : 5;
            for (int step = 0; step < steps; step++) {
                text.append("nesw".charAt(draw(4)));
            }
        }
        if (draw(3) == 0) {
            text.setCharAt(draw(text.length()), "kclxanesw,bpqK".charAt(draw(14)));
        }
        for (int i = 0; i < text.length(); i++) {
            compare(run, "letter", text.charAt(i), 0, 0);
        }
        compare(run, "fault", 0, 0, 0);
        compare(run, "hills", 0, 0, 0);
    }

    /** Mostly a number that the call takes, now and then an odd one. */
    private int argument(String name, int index) {
        if (draw(12) == 0) {
            return ODD[draw(ODD.length)];
        }
        switch (name + index) {
            case "letter0": return "kclxanesw,bp".charAt(draw(12));
            case "stick1": return draw(16);
            case "as1": return draw(6);
            case "at1": return draw(32);
            case "late1": return draw(11);
            case "cut1": return draw(7);
            case "saw1": return draw(5);
            case "cover0": return draw(2) == 0 ? draw(65536) : 1 << draw(16) | 1 << draw(16);
            case "cover1": return draw(2);
            case "catches0": return draw(16);
            case "see0": return draw(3) == 0 ? draw(16) : ways.at(draw(4), 2);
            case "see1": return draw(3) == 0 ? draw(31) : 2;
            case "mornings0": return 1 + draw(4);
            case "mornings1": return draw(1 << 30);
            case "mornings2": return draw(3);
            case "count0": return draw(9);
            default: return draw(7);
        }
    }

    private void compare(int run, String name, int a, int b, int c) {
        calls++;
        if (calls <= CALLS) {
            String told = "run " + run + ", call " + calls + ": " + name + "(" + a + ", " + b + ", " + c + ")";
            Check.due(told, call(name, a, b, c), model.call(name, a, b, c));
        }
    }

    private long call(String name, int a, int b, int c) {
        switch (name) {
            case "letter": return ways.letter(a);
            case "blank": return ways.blank();
            case "fault": return ways.fault();
            case "hills": return ways.hills();
            case "stick": return ways.stick(a, b);
            case "as": return ways.as(a, b);
            case "at": return ways.at(a, b);
            case "meet": return ways.meet(a, b);
            case "late": return ways.late(a, b);
            case "cut": return ways.cut(a, b);
            case "saw": return ways.saw(a, b);
            case "later": return ways.later(a, b);
            case "cover": return ways.cover(a, b);
            case "catches": return ways.catches(a, b);
            case "see": return ways.see(a, b);
            case "forget": return ways.forget();
            case "whose": return ways.whose();
            case "look": return ways.look();
            case "mornings": return ways.mornings(a, b, c);
            case "image": return ways.image();
            case "restore": return ways.restore();
            case "count": return ways.count(a);
            case "digest": return ways.digest();
            default: throw new IllegalArgumentException(name);
        }
    }
}
