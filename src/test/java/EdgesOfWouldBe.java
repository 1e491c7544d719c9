/** The edges that the document names for what would be: promises 13 to 15. */
final class EdgesOfWouldBe {
    private EdgesOfWouldBe() {
    }

    static void check() {
        laterByEachNumberOfHours();
        laterInAll();
        laterAtTheFirstAndLastHour();
        coverByHowFew();
        coverTheLeastOfLikeOnes();
        coverBySix();
        catchFromEachPlace();
        catchOnTheWay();
        later();
        cover();
        coverWithoutHills();
        catches();
    }

    // ---- terms

    private static void laterByEachNumberOfHours() {
        Doc.says(Doc.TERMS, "LATER for two: by how many HOURS (0 to 9) in all the second one must be LATE,"
            + " so that it MEETS the first one (LATE as it is): the least; none.");
        // The first one is at 1 from one hour behind its lateness on; the second one leaves 1 at once.
        StickWays ways = Check.of("kae,kbe,kas");
        for (int late = 0; late <= 8; late++) {
            ways.late(0, late);
            Check.due("the first one late by " + late, ways.later(0, 1), late + 1);
        }
        ways.late(0, 9);
        Check.due("it would have to be ten", ways.later(0, 1), Check.NONE);
        Check.due("none needed, they begin together", ways.later(0, 2), 0);
    }

    private static void laterInAll() {
        StickWays ways = Check.of("kae,kbe");
        for (int late = 0; late <= 9; late++) {
            ways.late(1, late);
            Check.due("in all, not beside " + late, ways.later(0, 1), 1);
            Check.due("it is not made late", ways.stick(1, 3), late);
        }
        Check.due("the other way round: it waits there", ways.later(1, 0), 0);
        Check.due("ten calls of late() were changes, later() was none", ways.count(4), 10);
    }

    private static void laterAtTheFirstAndLastHour() {
        Check.due("at hour 0 alone", Check.of("kae,kas").later(0, 1), 0);
        Check.due("never", Check.of("kae,kps").later(0, 1), Check.NONE);
        StickWays ways = Check.of("adenews,afwenew");
        ways.late(0, 9);
        Check.due("at hours 29 and 30 alone", ways.meet(0, 1), 2);
        Check.due("that is a meeting, too", ways.later(0, 1), 0);
    }

    private static void coverByHowFew() {
        Doc.says(Doc.TERMS, "COVER for some PLACES (as bits): by how few STICKS each of these is seen"
            + " (one is there at some HOUR): which, as bits: of like ones the least; none.");
        StickWays ways = Check.of("kae,kce,kie,kke");
        both(ways, 0, 0, 0);
        both(ways, 1, 1, 1);
        both(ways, 1 | 2, 1, 1);
        both(ways, 1 | 4, 2, 3);
        both(ways, 1 | 4 | 256, 3, 7);
        both(ways, 1 | 4 | 256 | 1024, 4, 15);
        both(ways, 1 | 2 | 4 | 8 | 256 | 512 | 1024 | 2048, 4, 15);
        both(ways, 1 << 15, Check.NONE, Check.NONE);
        both(ways, 1 | 1 << 15, Check.NONE, Check.NONE);
        both(ways, 65535, Check.NONE, Check.NONE);
        both(Check.of("kaeee,keeee,kieee,kmeee"), 65535, 4, 15);
        both(Check.of("kaeeess,kmnnees,kpwwn"), 65535, 3, 7);
        StickWays late = Check.of("kaneswn,apwwwsw");
        late.late(1, 9);
        both(late, 1 << 15, 1, 2);
        // Place 8 comes in the alp's thirteenth hour, when it goes its way for the second time.
        both(late, 1 << 8, 1, 2);
    }

    private static void both(StickWays ways, int places, int few, int which) {
        Check.due("cover(" + places + ", 0)", ways.cover(places, 0), few);
        Check.due("cover(" + places + ", 1)", ways.cover(places, 1), which);
    }

    private static void coverTheLeastOfLikeOnes() {
        both(Check.of("kan,kan,kan"), 1, 1, 1);
        both(Check.of("kbn,kan,kan"), 1, 1, 2);
        both(Check.of("kbn,kbn,kae,kae"), 1 | 2, 1, 4);
        both(Check.of("kae,kce,kbe,kde"), 1 | 4 | 8, 2, 3);
        both(Check.of("kbn,kbn,kcn,kcn"), 2 | 4, 2, 5);
        // By sticks 0 and 3 (9), or by 1 and 2 (6).
        both(Check.of("kae,kas,kbs,kee"), 1 | 2 | 16 | 32, 2, 6);
        // Fewer go before less: stick 3 alone (8), not sticks 0 and 1 (3).
        both(Check.of("kbn,kcn,kan,kbe"), 2 | 4, 1, 8);
    }

    private static void coverBySix() {
        StickWays ways = Check.of("kaes,kdws,kpn,kmn");
        ways.saw(0, 1);
        ways.saw(1, 1);
        // Their places: 0 and 1, 3 and 2, 15 and 11, 12 and 8, 1 and 5, 2 and 6.
        both(ways, 1 << 5, 1, 16);
        both(ways, 1 << 6, 1, 32);
        both(ways, 1 << 1, 1, 1);
        both(ways, 1 << 1 | 1 << 2, 2, 3);
        both(ways, 1 << 1 | 1 << 2 | 1 << 5 | 1 << 6, 2, 48);
        both(ways, 1 << 5 | 1 << 3 | 1 << 6 | 1 << 15 | 1 << 12, 5, 62);
        both(ways, 1 << 0 | 1 << 5 | 1 << 3 | 1 << 6 | 1 << 15 | 1 << 12, 6, 63);
        both(ways, 65535, Check.NONE, Check.NONE);
    }

    private static void catchFromEachPlace() {
        Doc.says(Doc.TERMS, "CATCH for a PLACE and a STICK: at which HOUR, the first, one who is at this PLACE"
            + " at HOUR 0, and makes a STEP in each HOUR, or none, can be where it is.");
        int[] toPlace0 = {0, 1, 2, 3, 1, 2, 3, 4, 2, 3, 4, 5, 3, 4, 5, 6};
        int[] toPlace6 = {3, 2, 1, 2, 2, 1, 0, 1, 3, 2, 1, 2, 4, 3, 2, 3};
        StickWays ways = Check.of("kan,kps");
        for (int place = 0; place < 16; place++) {
            Check.due("one that stays at 0: catches(" + place + ", 0)", ways.catches(place, 0), toPlace0[place]);
            Check.due("one that stays at 15: catches(" + place + ", 1)", ways.catches(place, 1),
                toPlace0[15 - place]);
        }
        StickWays late = Check.of("kge");
        late.late(0, 9);
        for (int place = 0; place < 16; place++) {
            Check.due("one that is late: catches(" + place + ", 0)", late.catches(place, 0), toPlace6[place]);
        }
    }

    private static void catchOnTheWay() {
        StickWays ways = Check.of("kbee,kdww,kaese,lae");
        Check.due("at hour 0, though it goes away", ways.catches(1, 0), 0);
        Check.due("it is followed to its end", ways.catches(0, 0), 3);
        Check.due("it comes, half the way each", ways.catches(1, 1), 1);
        Check.due("the first hour, not a later one", ways.catches(1, 2), 1);
        Check.due("one may wait", ways.catches(6, 2), 2);
        Check.due("a lame one is caught where it begins", ways.catches(4, 3), 1);
        Check.due("a lame one comes slowly", ways.catches(1, 3), 1);
    }

    // ---- promises

    private static void later() {
        Doc.says(13, "LATER; NONE. UNKNOWN: a, b, or they are the same.");
        StickWays ways = Check.of("kae,kbw");
        Check.due("later(0, 1)", ways.later(0, 1), 1);
        Check.due("later(1, 0)", ways.later(1, 0), 1);
        Check.due("later(0, 0)", ways.later(0, 0), Check.UNKNOWN);
        Check.due("later(1, 1)", ways.later(1, 1), Check.UNKNOWN);
        Check.due("later(0, 2)", ways.later(0, 2), Check.UNKNOWN);
        Check.due("later(2, 0)", ways.later(2, 0), Check.UNKNOWN);
        Check.due("later(0, -1)", ways.later(0, -1), Check.UNKNOWN);
        Check.due("later(-1, 0)", ways.later(-1, 0), Check.UNKNOWN);
        Check.due("later(2, 2)", ways.later(2, 2), Check.UNKNOWN);
        Check.due("NONE", Check.of("kan,kps").later(0, 1), Check.NONE);
    }

    private static void cover() {
        Doc.says(14, "COVER: what = 0 by how few, 1 which, as bits; NONE. OUTSIDE: places (bits, 0 to 65535), what;");
        StickWays ways = Check.of("kps");
        both(ways, 0, 0, 0);
        both(ways, 1 << 15, 1, 1);
        both(ways, 65535, Check.NONE, Check.NONE);
        Check.due("cover(-1, 0)", ways.cover(-1, 0), Check.OUTSIDE);
        Check.due("cover(-1, 1)", ways.cover(-1, 1), Check.OUTSIDE);
        Check.due("cover(65536, 0)", ways.cover(65536, 0), Check.OUTSIDE);
        Check.due("cover(65536 + 32768, 1)", ways.cover(65536 + 32768, 1), Check.OUTSIDE);
        Check.due("cover(least, 0)", ways.cover(Integer.MIN_VALUE, 0), Check.OUTSIDE);
        Check.due("cover(most, 0)", ways.cover(Integer.MAX_VALUE, 0), Check.OUTSIDE);
        Check.due("cover(0, -1)", ways.cover(0, -1), Check.OUTSIDE);
        Check.due("cover(0, 2)", ways.cover(0, 2), Check.OUTSIDE);
        Check.due("cover(65535, 2)", ways.cover(65535, 2), Check.OUTSIDE);
    }

    private static void coverWithoutHills() {
        Doc.says(14, "STATE: no HILLS.");
        StickWays ways = new StickWays();
        both(ways, 0, Check.STATE, Check.STATE);
        both(ways, 65535, Check.STATE, Check.STATE);
        Check.due("first OUTSIDE: places below", ways.cover(-1, 0), Check.OUTSIDE);
        Check.due("first OUTSIDE: places above", ways.cover(65536, 1), Check.OUTSIDE);
        Check.due("first OUTSIDE: what below", ways.cover(0, -1), Check.OUTSIDE);
        Check.due("first OUTSIDE: what above", ways.cover(0, 2), Check.OUTSIDE);
    }

    private static void catches() {
        Doc.says(15, "CATCH. UNKNOWN: stick; OUTSIDE: place (0 to 15).");
        StickWays ways = Check.of("kan,kps");
        Check.due("catches(0, 1)", ways.catches(0, 1), 6);
        Check.due("catches(15, 1)", ways.catches(15, 1), 0);
        Check.due("catches(-1, 1)", ways.catches(-1, 1), Check.OUTSIDE);
        Check.due("catches(16, 1)", ways.catches(16, 1), Check.OUTSIDE);
        Check.due("catches(0, 2)", ways.catches(0, 2), Check.UNKNOWN);
        Check.due("catches(0, -1)", ways.catches(0, -1), Check.UNKNOWN);
        Check.due("first UNKNOWN: catches(16, 2)", ways.catches(16, 2), Check.UNKNOWN);
        Check.due("first UNKNOWN: catches(-1, -1)", ways.catches(-1, -1), Check.UNKNOWN);
        Check.due("first UNKNOWN without hills", new StickWays().catches(16, 0), Check.UNKNOWN);
    }
}
