/** Promises 16 to 20: what is seen, and mornings. */
final class SeenTest {
    public static void main(String[] args) {
        promise16See();
        promise17Forget();
        promise18Whose();
        promise19Look();
        promise20Mornings();
        promise20MorningsRefused();
        Check.end();
    }

    private static void promise16See() {
        StickWays ways = new StickWays();
        Check.due("see(16, 0)", ways.see(16, 0), Check.OUTSIDE);
        Check.due("see(0, 31)", ways.see(0, 31), Check.OUTSIDE);
        for (int wrong : Check.WRONG) {
            Check.due("see(" + wrong + ", 0)", ways.see(wrong, 0), Check.OUTSIDE);
            Check.due("see(0, " + wrong + ")", ways.see(0, wrong), Check.OUTSIDE);
        }
        Check.due("nothing is seen yet", ways.count(5), 0);
        Check.due("see(15, 30)", ways.see(15, 30), 1);
        for (int seen = 2; seen <= 8; seen++) {
            Check.due("the same once more", ways.see(0, 0), seen);
        }
        long[] before = Check.told(ways);
        Check.due("a ninth", ways.see(0, 0), Check.FULL);
        Check.due("a ninth outside", ways.see(16, 0), Check.OUTSIDE);
        Check.unchanged("a ninth", ways, before);
        Check.write(ways, "kan");
        ways.hills();
        Check.due("gone when hills are read", ways.count(5), 0);
    }

    private static void promise17Forget() {
        StickWays ways = Check.of("kan,kbn");
        ways.see(0, 0);
        ways.see(0, 1);
        Check.due("whose() before", ways.whose(), 1);
        Check.due("forget()", ways.forget(), 2);
        Check.due("forget() again", ways.forget(), 0);
        Check.due("whose() behind", ways.whose(), 3);
        Check.due("see() behind", ways.see(1, 0), 1);
        Check.due("no change is counted", ways.count(4), 0);
    }

    private static void promise18Whose() {
        Check.due("whose() without hills", new StickWays().whose(), Check.STATE);
        StickWays ways = Check.of("kae,kbw,kaes,cae");
        Check.due("nothing seen", ways.whose(), 15);
        ways.see(0, 0);
        Check.due("all that begin there", ways.whose(), 13);
        ways.see(1, 1);
        Check.due("and go east", ways.whose(), 13);
        ways.see(1, 2);
        Check.due("and stay there", ways.whose(), 1);
        ways.late(3, 1);
        Check.due("late as they are", ways.whose(), 1);
        ways.forget();
        ways.see(1, 2);
        Check.due("late as it is", ways.whose(), 1 | 8);
        ways.saw(2, 1);
        Check.due("a sawn one, too", ways.whose(), 1 | 4 | 8);
        ways.see(15, 30);
        Check.due("none", ways.whose(), 0);
    }

    private static void promise19Look() {
        Check.due("look() without hills", new StickWays().look(), Check.STATE);
        StickWays ways = Check.of("kaee,kaes,kass,kasw");
        Check.due("when all four have parted", ways.look(), 2);
        ways.see(1, 1);
        Check.due("when two have parted", ways.look(), 2);
        ways.see(2, 2);
        Check.due("one is left", ways.look(), 0);
        ways.see(3, 3);
        Check.due("none is left", ways.look(), Check.NONE);
        Check.due("two of three", Check.of("kae,kan,kaw").look(), 1);
        Check.due("never any better", Check.of("kan,kaw").look(), 0);
        Check.due("at once", Check.of("kan,kbn").look(), 0);
        Check.due("at worst, not on the whole", Check.of("kaesn,kaesw,kawsn,kawsw").look(), 1);
        StickWays late = Check.of("kae,kae");
        late.late(0, 9);
        late.late(1, 8);
        Check.due("late as they are", late.look(), 9);
    }

    private static void promise20Mornings() {
        StickWays ways = Check.of("kae,kbw");
        ways.late(0, 9);
        long[] before = Check.told(ways);
        // Seed 1: 1103527590, 2524885223 & 0x7fffffff = 377401575: draws 2 and 2.
        Check.due("the seed behind two draws", ways.mornings(1, 1, 2), 377401575);
        Check.due("both late by 2: they change places", ways.mornings(1, 1, 0), 0);
        Check.due("seed 0: first seed is 12345", Check.of("kan").mornings(1, 0, 2), 12345);
        Check.due("places on the last one", ways.mornings(1, 1, 1), 2);
        Check.due("always together", Check.of("kan,kan").mornings(20, 5, 0), 20 * 31);
        Check.due("three pairs", Check.of("kan,kan,kan").mornings(2, 5, 0), 2 * 3 * 31);
        Check.unchanged("mornings()", ways, before);
        int[] seeds = {0, 1, 7, 65536, 2147483646, 2147483647};
        for (int seed : seeds) {
            for (int many = 1; many <= 20; many++) {
                morningsByHand("kaes,lae,aan,xpn", many, seed);
            }
        }
    }

    /** The draws put in by late(), one morning behind the other. */
    private static void morningsByHand(String text, int many, int seed) {
        StickWays ways = Check.of(text);
        long next = seed;
        int meetings = 0;
        int places = 0;
        for (int morning = 0; morning < many; morning++) {
            for (int stick = 0; stick < ways.count(0); stick++) {
                next = (1103515245L * next + 12345L) % (1L << 31);
                ways.late(stick, (int) (next / 65536 % 4));
            }
            meetings += ways.count(3);
            places = ways.count(2);
        }
        Check.due("mornings(" + many + ", " + seed + ", 0)", ways.mornings(many, seed, 0), meetings);
        Check.due("mornings(" + many + ", " + seed + ", 1)", ways.mornings(many, seed, 1), places);
        Check.due("mornings(" + many + ", " + seed + ", 2)", ways.mornings(many, seed, 2), next);
    }

    private static void promise20MorningsRefused() {
        StickWays none = new StickWays();
        Check.due("mornings(1, 0, 0) without hills", none.mornings(1, 0, 0), Check.STATE);
        Check.due("mornings(0, 0, 0) without hills", none.mornings(0, 0, 0), Check.OUTSIDE);
        Check.due("mornings(1, 0, 3) without hills", none.mornings(1, 0, 3), Check.OUTSIDE);
        StickWays ways = Check.of("kan");
        int[] wrongMany = {0, -1, 21, Integer.MIN_VALUE, Integer.MAX_VALUE};
        for (int many : wrongMany) {
            Check.due("mornings(" + many + ", 0, 0)", ways.mornings(many, 0, 0), Check.OUTSIDE);
        }
        Check.due("mornings(1, -1, 0)", ways.mornings(1, -1, 0), Check.OUTSIDE);
        Check.due("mornings(1, least, 0)", ways.mornings(1, Integer.MIN_VALUE, 0), Check.OUTSIDE);
        Check.due("mornings(1, 0, 3)", ways.mornings(1, 0, 3), Check.OUTSIDE);
        for (int wrong : Check.WRONG) {
            Check.due("mornings(1, 0, " + wrong + ")", ways.mornings(1, 0, wrong), Check.OUTSIDE);
        }
    }
}
