import java.util.ArrayList;
import java.util.List;

/**
 * "Refusals, of several the first as told by each call .. they change nothing": in objects in many
 * states, each call with each number that is just outside, or far, is refused by the first reason
 * that applies, and the object then answers all calls as a twin that was never asked.
 */
final class EdgesOfRefusals {
    private static final int LEAST = Integer.MIN_VALUE;
    private static final int MOST = Integer.MAX_VALUE;

    private interface Maker {
        StickWays make();
    }

    private interface Call {
        long on(StickWays ways);
    }

    private record Refused(String name, long want, Call call) {
    }

    private final String state;
    private final Maker maker;
    private final int sticks;
    private final int letters;
    private final int seen;
    private final List<Refused> refused = new ArrayList<>();

    private EdgesOfRefusals(String state, Maker maker) {
        this.state = state;
        this.maker = maker;
        StickWays made = maker.make();
        sticks = made.count(0);
        letters = made.count(6);
        seen = made.count(5);
    }

    static void check() {
        Doc.says(Doc.TERMS, "Refusals, of several the first as told by each call: UNKNOWN (a number names nothing),"
            + " OUTSIDE (it is not as told), STATE (as told), FULL; they change nothing.");
        new EdgesOfRefusals("new", StickWays::new).checkAll(false, false);
        new EdgesOfRefusals("a full page", () -> Check.page("kaneswn,cfneswn,lkneswn,xpneswn,")).checkAll(false, false);
        new EdgesOfRefusals("eight seen, no hills", EdgesOfRefusals::seenWithoutHills).checkAll(false, false);
        new EdgesOfRefusals("one step", () -> Check.of("kan")).checkAll(true, false);
        new EdgesOfRefusals("five sticks", EdgesOfRefusals::five).checkAll(true, true);
        new EdgesOfRefusals("all full", EdgesOfRefusals::full).checkAll(true, true);
        new EdgesOfRefusals("read again", EdgesOfRefusals::readAgain).checkAll(true, false);
    }

    // ---- states

    private static StickWays seenWithoutHills() {
        StickWays ways = Check.page("ka");
        seeEight(ways);
        return ways;
    }

    /** In all, the walk of the first stick of full(). */
    private static void seeEight(StickWays ways) {
        int[] places = {0, 0, 0, 0, 1, 2, 2, 2};
        for (int hour = 0; hour < places.length; hour++) {
            ways.see(places[hour], hour);
        }
    }

    /** The image is another than what is there now. */
    private static StickWays five() {
        StickWays ways = Check.page("kaeeess,cfneswn,lkn,xpw");
        ways.hills();
        ways.late(0, 9);
        ways.see(0, 3);
        ways.image();
        ways.saw(1, 2);
        ways.late(0, 3);
        ways.late(3, 1);
        ways.see(1, 4);
        Check.write(ways, "kan,kbw");
        return ways;
    }

    /** As many sticks, sights and letters as there can be, and an image of it. */
    private static StickWays full() {
        StickWays ways = Check.page("kaeeess,cfneswn,lkneswn,apnn");
        ways.hills();
        ways.saw(0, 2);
        ways.saw(1, 4);
        ways.late(0, 3);
        seeEight(ways);
        ways.image();
        ways.late(5, 9);
        Check.write(ways, "kaneswn,cfneswn,lkneswn,xpneswn,");
        return ways;
    }

    private static StickWays readAgain() {
        StickWays ways = five();
        ways.hills();
        return ways;
    }

    // ---- what is refused in a state

    private void checkAll(boolean hills, boolean image) {
        Check.due(state + ": hills", sticks > 0 == hills);
        addPage();
        addStickCalls();
        addPairs();
        addChanges();
        addCover();
        addCatches();
        addSee();
        addMornings();
        addOfAll(hills, image);
        for (Refused one : refused) {
            changesNothing(one);
        }
    }

    private void add(String name, long want, Call call) {
        refused.add(new Refused(name, want, call));
    }

    private int[] unknown() {
        return new int[] {LEAST, -1, sticks, sticks + 1, MOST};
    }

    private void addPage() {
        for (int code : new int[] {LEAST, -1, 0, 127, 128, MOST}) {
            add("letter(" + code + ")", Check.OUTSIDE, ways -> ways.letter(code));
        }
        if (letters == 32) {
            for (int code : new int[] {1, 'k', 126}) {
                add("letter(" + code + ")", Check.FULL, ways -> ways.letter(code));
            }
        }
        if (maker.make().hills() == Check.STATE) {
            add("hills()", Check.STATE, StickWays::hills);
        }
    }

    private void addStickCalls() {
        for (int stick : unknown()) {
            for (int second : new int[] {LEAST, -1, 0, 1, 7, 31, MOST}) {
                add("stick(" + stick + ", " + second + ")", Check.UNKNOWN, ways -> ways.stick(stick, second));
                add("as(" + stick + ", " + second + ")", Check.UNKNOWN, ways -> ways.as(stick, second));
                add("at(" + stick + ", " + second + ")", Check.UNKNOWN, ways -> ways.at(stick, second));
            }
        }
        for (int each = 0; each < sticks; each++) {
            int stick = each;
            for (int what : new int[] {LEAST, -1, 7, 8, 9, 15, MOST}) {
                add("stick(" + stick + ", " + what + ")", Check.OUTSIDE, ways -> ways.stick(stick, what));
            }
            for (int kind : new int[] {LEAST, -1, 5, MOST}) {
                add("as(" + stick + ", " + kind + ")", Check.OUTSIDE, ways -> ways.as(stick, kind));
            }
            for (int hour : new int[] {LEAST, -1, 31, MOST}) {
                add("at(" + stick + ", " + hour + ")", Check.OUTSIDE, ways -> ways.at(stick, hour));
            }
        }
    }

    private void addPairs() {
        for (int wrong : unknown()) {
            for (int other : new int[] {-1, 0, sticks - 1, sticks}) {
                add("meet(" + wrong + ", " + other + ")", Check.UNKNOWN, ways -> ways.meet(wrong, other));
                add("meet(" + other + ", " + wrong + ")", Check.UNKNOWN, ways -> ways.meet(other, wrong));
                add("later(" + wrong + ", " + other + ")", Check.UNKNOWN, ways -> ways.later(wrong, other));
                add("later(" + other + ", " + wrong + ")", Check.UNKNOWN, ways -> ways.later(other, wrong));
            }
        }
        for (int each = 0; each < sticks; each++) {
            int stick = each;
            add("meet(" + stick + ", " + stick + ")", Check.UNKNOWN, ways -> ways.meet(stick, stick));
            add("later(" + stick + ", " + stick + ")", Check.UNKNOWN, ways -> ways.later(stick, stick));
        }
    }

    private void addChanges() {
        for (int stick : unknown()) {
            for (int second : new int[] {LEAST, -1, 0, 1, 10, MOST}) {
                add("late(" + stick + ", " + second + ")", Check.UNKNOWN, ways -> ways.late(stick, second));
                add("cut(" + stick + ", " + second + ")", Check.UNKNOWN, ways -> ways.cut(stick, second));
                add("saw(" + stick + ", " + second + ")", Check.UNKNOWN, ways -> ways.saw(stick, second));
            }
        }
        StickWays made = maker.make();
        for (int each = 0; each < sticks; each++) {
            int stick = each;
            int has = made.stick(stick, 2);
            for (int hours : new int[] {LEAST, -1, 10, MOST}) {
                add("late(" + stick + ", " + hours + ")", Check.OUTSIDE, ways -> ways.late(stick, hours));
            }
            for (int steps : new int[] {LEAST, -1, 0, has + 1, MOST}) {
                add("cut(" + stick + ", " + steps + ")", Check.OUTSIDE, ways -> ways.cut(stick, steps));
            }
            for (int steps : new int[] {LEAST, -1, 0, has, has + 1, MOST}) {
                add("saw(" + stick + ", " + steps + ")", Check.OUTSIDE, ways -> ways.saw(stick, steps));
            }
            for (int behind = 1; behind < has && sticks == 6; behind++) {
                int steps = behind;
                add("saw(" + stick + ", " + steps + ")", Check.FULL, ways -> ways.saw(stick, steps));
            }
        }
    }

    private void addCover() {
        for (int what : new int[] {LEAST, -1, 0, 1, 2, MOST}) {
            for (int places : new int[] {LEAST, -1, 65536, MOST}) {
                add("cover(" + places + ", " + what + ")", Check.OUTSIDE, ways -> ways.cover(places, what));
            }
            for (int places : new int[] {0, 1, 65535}) {
                boolean outside = what < 0 || what > 1;
                if (outside || sticks == 0) {
                    int want = outside ? Check.OUTSIDE : Check.STATE;
                    add("cover(" + places + ", " + what + ")", want, ways -> ways.cover(places, what));
                }
            }
        }
    }

    private void addCatches() {
        for (int place : new int[] {LEAST, -1, 0, 15, 16, MOST}) {
            for (int stick : unknown()) {
                add("catches(" + place + ", " + stick + ")", Check.UNKNOWN, ways -> ways.catches(place, stick));
            }
            for (int each = 0; each < sticks && (place < 0 || place > 15); each++) {
                int stick = each;
                add("catches(" + place + ", " + stick + ")", Check.OUTSIDE, ways -> ways.catches(place, stick));
            }
        }
    }

    private void addSee() {
        for (int place : new int[] {LEAST, -1, 0, 15, 16, MOST}) {
            for (int hour : new int[] {LEAST, -1, 0, 30, 31, MOST}) {
                boolean outside = place < 0 || place > 15 || hour < 0 || hour > 30;
                if (outside || seen == 8) {
                    int want = outside ? Check.OUTSIDE : Check.FULL;
                    add("see(" + place + ", " + hour + ")", want, ways -> ways.see(place, hour));
                }
            }
        }
    }

    private void addMornings() {
        for (int many : new int[] {LEAST, -1, 0, 1, 20, 21, MOST}) {
            for (int seed : new int[] {LEAST, -1, 0, MOST}) {
                for (int what : new int[] {LEAST, -1, 0, 2, 3, MOST}) {
                    boolean outside = many < 1 || many > 20 || seed < 0 || what < 0 || what > 2;
                    if (outside || sticks == 0) {
                        int want = outside ? Check.OUTSIDE : Check.STATE;
                        String name = "mornings(" + many + ", " + seed + ", " + what + ")";
                        add(name, want, ways -> ways.mornings(many, seed, what));
                    }
                }
            }
        }
    }

    private void addOfAll(boolean hills, boolean image) {
        for (int what : new int[] {LEAST, -1, 8, 9, MOST}) {
            add("count(" + what + ")", Check.OUTSIDE, ways -> ways.count(what));
        }
        if (!hills) {
            add("whose()", Check.STATE, StickWays::whose);
            add("look()", Check.STATE, StickWays::look);
            add("image()", Check.STATE, StickWays::image);
        }
        if (!image) {
            add("restore()", Check.STATE, StickWays::restore);
        }
    }

    // ---- that it changes nothing

    private void changesNothing(Refused one) {
        StickWays asked = maker.make();
        StickWays twin = maker.make();
        String name = state + ": " + one.name;
        Check.due(name, one.call.on(asked), one.want);
        Check.due(name + " changes nothing", alike(asked, twin));
        // What cannot be seen yet: the image, what was seen on it, and what the page holds.
        Check.due(name + " does not change restore()", asked.restore() == twin.restore());
        Check.due(name + " does not change the image", alike(asked, twin));
        Check.due(name + " does not change hills()", asked.hills() == twin.hills());
        Check.due(name + " does not change what is read", alike(asked, twin));
    }

    /** Some 70 calls of each of the two, so that all stay under 512. */
    private static boolean alike(StickWays one, StickWays other) {
        boolean alike = one.digest() == other.digest() && one.fault() == other.fault()
            && one.whose() == other.whose() && one.look() == other.look();
        for (int stick = 0; stick < 6; stick++) {
            for (int hour = 2; hour <= 30; hour += 4) {
                alike &= one.at(stick, hour) == other.at(stick, hour);
            }
        }
        for (int what = 0; what < 8; what++) {
            alike &= one.count(what) == other.count(what);
        }
        return alike;
    }
}
