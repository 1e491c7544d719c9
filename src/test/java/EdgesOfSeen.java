/** The edges that the document names for what is seen and for mornings: promises 16 to 20. */
final class EdgesOfSeen {
    private EdgesOfSeen() {
    }

    static void check() {
        eightSeenAtMost();
        whoseItCanHaveBeen();
        whoseLateAsTheyAre();
        lookTheLeastOfLikeOnes();
        lookAtWorst();
        lookNone();
        morningsAddUp();
        morningsInPlaceOfLateness();
        draws();
        drawsBySticks();
        see();
        seeFull();
        seeTheSameAgain();
        forget();
        whose();
        whoseWithoutHills();
        look();
        lookWithoutHills();
        morningsTaken();
        morningsOutside();
        morningsWithoutHills();
    }

    // ---- terms

    private static void eightSeenAtMost() {
        Doc.says(Doc.TERMS, "SEEN (8 at most): that a STICK, of which it is not known which it is,"
            + " was at a PLACE at an HOUR.");
        StickWays ways = Check.of("kaeeess,kaeeesw");
        int[] places = {0, 1, 2, 3, 7, 11, 11, 11};
        for (int seen = 1; seen <= 8; seen++) {
            Check.due("see() " + seen, ways.see(places[seen - 1], seen - 1), seen);
        }
        Check.due("see() 9", ways.see(0, 0), Check.FULL);
        Check.due("eight are seen", ways.count(5), 8);
        Check.due("all eight are looked at", ways.whose(), 1);
        ways.forget();
        for (int seen = 1; seen <= 7; seen++) {
            ways.see(0, 0);
        }
        Check.due("seven leave both", ways.whose(), 3);
        ways.see(6, 5);
        Check.due("the eighth leaves one", ways.whose(), 2);
    }

    private static void whoseItCanHaveBeen() {
        Doc.says(Doc.TERMS, "WHOSE it can have been, LATE as they are: as bits.");
        StickWays ways = Check.of("kaess,kaess,kaess,kaess");
        Check.due("nothing is seen: each of four", ways.whose(), 15);
        ways.saw(0, 1);
        ways.saw(1, 2);
        Check.due("nothing is seen: each of six", ways.whose(), 63);
        ways.see(5, 1);
        Check.due("the rest of the first one", ways.whose(), 16);
        ways.forget();
        ways.see(5, 0);
        Check.due("the rest of the second one", ways.whose(), 32);
        ways.forget();
        ways.see(9, 30);
        Check.due("at its end, at the last hour", ways.whose(), 4 | 8 | 16 | 32);
        ways.see(1, 1);
        Check.due("and at a place ahead of it", ways.whose(), 4 | 8);
        ways.see(2, 2);
        Check.due("none", ways.whose(), 0);
    }

    private static void whoseLateAsTheyAre() {
        StickWays ways = Check.of("kae,kae");
        ways.see(0, 9);
        Check.due("none, when not late", ways.whose(), 0);
        ways.late(0, 8);
        Check.due("none, late by 8", ways.whose(), 0);
        ways.late(0, 9);
        Check.due("the one that is late by 9", ways.whose(), 1);
        ways.late(0, 0);
        ways.late(1, 9);
        Check.due("now the other one", ways.whose(), 2);
    }

    private static void lookTheLeastOfLikeOnes() {
        Doc.says(Doc.TERMS, "LOOK: at which HOUR to look where it is, so that fewest of these are left at worst:"
            + " of like ones the least; none, if there are none.");
        Check.due("at each hour one is left", Check.of("kan,kbn").look(), 0);
        Check.due("at hours 1 to 30 one is left", Check.of("kae,kas").look(), 1);
        Check.due("at hour 1 alone one is left", Check.of("cae,cas").look(), 1);
        Check.due("at each hour both are left", Check.of("kae,kae").look(), 0);
        Check.due("at hour 2 one of three", Check.of("kaee,kaes,kas").look(), 2);
        Check.due("one stick alone", Check.of("kaeeess").look(), 0);
        StickWays late = Check.of("kae,kas,kae,kas");
        late.see(0, 0);
        for (int stick = 0; stick < 4; stick++) {
            late.late(stick, 9);
        }
        Check.due("late by 9, they part at hour 10", late.look(), 10);
        StickWays last = Check.of("adenews,adeness");
        last.late(0, 9);
        last.late(1, 9);
        Check.due("two late ones that part at their fourth step", last.look(), 13);
    }

    private static void lookAtWorst() {
        // At hour 1 three are together and one is alone; at hour 2 there are two and two.
        Check.due("at worst, not at best", Check.of("kfnn,kfnn,kfnw,kfwn").look(), 2);
        StickWays ways = Check.of("kae,kae,kas,kps");
        Check.due("all four may be it", ways.look(), 1);
        ways.see(0, 0);
        Check.due("only those that may have been it", ways.whose(), 7);
        Check.due("two of three at worst", ways.look(), 1);
        ways.see(4, 1);
        Check.due("one alone: at once", ways.look(), 0);
    }

    private static void lookNone() {
        StickWays ways = Check.of("kan,kan");
        ways.see(15, 0);
        Check.due("none can have been it", ways.look(), Check.NONE);
        ways.forget();
        Check.due("each can have been it", ways.look(), 0);
    }

    private static void morningsAddUp() {
        Doc.says(Doc.TERMS, "MORNINGS by a SEED, as they would be: so many, on each each STICK, by number,"
            + " is LATE by a DRAW of 4");
        Doc.says(Doc.TERMS, "how often two MEET in all (each two STICKS once for each HOUR in which they do);"
            + " how many PLACES are seen on the last one.");
        Check.due("two that stay together, 31 hours", Check.of("kan,kan").mornings(1, 0, 0), 31);
        Check.due("twenty mornings of it", Check.of("kan,kan").mornings(20, 0, 0), 620);
        Check.due("three pairs of three", Check.of("kan,kan,kan").mornings(1, 0, 0), 93);
        Check.due("one alone meets none", Check.of("kae").mornings(20, 0, 0), 0);
        StickWays six = Check.of("kannn,kannn,kan,kan");
        six.saw(0, 1);
        six.saw(1, 1);
        Check.due("fifteen pairs of six", six.mornings(20, 0, 0), 20 * 15 * 31);
        Check.due("places of one that stays", six.mornings(20, 0, 1), 1);
        Check.due("places seen twice count once", Check.of("kae,kae").mornings(3, 0, 1), 2);
        Check.due("sixteen places", Check.of("kaeee,khwww,kieee,kpwww").mornings(1, 0, 1), 16);
    }

    private static void morningsInPlaceOfLateness() {
        Doc.says(Doc.TERMS, "(in place of how LATE it is):");
        // Of seed 1 the draws are 2, 2, 1, 3: on the second morning they meet at hours 2 and 3.
        StickWays ways = Check.of("kae,kbw");
        Check.due("on one morning", ways.mornings(1, 1, 0), 0);
        Check.due("on two", ways.mornings(2, 1, 0), 2);
        ways.late(0, 9);
        ways.late(1, 9);
        Check.due("on one, though they are late", ways.mornings(1, 1, 0), 0);
        Check.due("on two, though they are late", ways.mornings(2, 1, 0), 2);
        Check.due("they stay as late as they were", ways.stick(0, 3) + ways.stick(1, 3), 18);
        Check.due("that is no change", ways.count(4), 2);
    }

    private static void draws() {
        Doc.says(Doc.TERMS, "DRAWS: the next SEED each time: 1103515245 times it and 12345, its rest by 2 to"
            + " the 31; then that by 65536 (rounded down), its rest.");
        int[] seeds = {0, 1, 2, 65535, 2147483646, 2147483647};
        int[] next = {12345, 1103527590, 59559187, 212263372, 2087949151, 1043980748};
        int[] second = {1406932606, 377401575, 1495354192, 732068885, 1318511020, 288979989};
        StickWays ways = Check.of("kan");
        for (int i = 0; i < seeds.length; i++) {
            Check.due("seed behind a draw from " + seeds[i], ways.mornings(1, seeds[i], 2), next[i]);
            Check.due("seed behind two draws from " + seeds[i], ways.mornings(2, seeds[i], 2), second[i]);
        }
        // One stays at 0, the other leaves it behind so many hours: they meet once more than the draw.
        StickWays leaving = Check.of("kan,kae");
        int[] drawnSecond = {0, 2, 1, 2, 2, 1};
        for (int i = 0; i < seeds.length; i++) {
            Check.due("second draw from " + seeds[i], leaving.mornings(1, seeds[i], 0), 1 + drawnSecond[i]);
        }
        StickWays leavingFirst = Check.of("kae,kan");
        int[] drawnFirst = {0, 2, 0, 2, 3, 1};
        for (int i = 0; i < seeds.length; i++) {
            Check.due("first draw from " + seeds[i], leavingFirst.mornings(1, seeds[i], 0), 1 + drawnFirst[i]);
        }
    }

    /** A morning takes a draw for each stick, the seed goes on from morning to morning. */
    private static void drawsBySticks() {
        StickWays six = Check.of("kannn,kannn,kan,kan");
        Check.due("four draws", six.mornings(1, 0, 2), 1449466924);
        six.saw(0, 1);
        Check.due("five draws", six.mornings(1, 0, 2), 229283573);
        six.saw(1, 1);
        Check.due("six draws", six.mornings(1, 0, 2), 1109335178);
        StickWays three = Check.of("kan,kan,kan");
        Check.due("two mornings of three are six draws", three.mornings(2, 0, 2), 1109335178);
        StickWays two = Check.of("kan,kan");
        Check.due("three mornings of two are six draws", two.mornings(3, 0, 2), 1109335178);
        Check.due("the same once more", two.mornings(3, 0, 2), 1109335178);
    }

    // ---- promises

    private static void see() {
        Doc.says(16, "It is SEEN: how much is. OUTSIDE: place (0 to 15), hour (0 to 30);");
        StickWays ways = Check.of("kan");
        Check.due("see(-1, 0)", ways.see(-1, 0), Check.OUTSIDE);
        Check.due("see(16, 0)", ways.see(16, 0), Check.OUTSIDE);
        Check.due("see(0, -1)", ways.see(0, -1), Check.OUTSIDE);
        Check.due("see(0, 31)", ways.see(0, 31), Check.OUTSIDE);
        Check.due("nothing is seen", ways.count(5), 0);
        Check.due("see(0, 0)", ways.see(0, 0), 1);
        Check.due("see(15, 0)", ways.see(15, 0), 2);
        Check.due("see(0, 30)", ways.see(0, 30), 3);
        Check.due("see(15, 30)", ways.see(15, 30), 4);
        Check.due("four are seen", ways.count(5), 4);
        Check.due("that is no change", ways.count(4), 0);
    }

    private static void seeFull() {
        Doc.says(16, "FULL.");
        StickWays ways = Check.of("kan");
        for (int seen = 1; seen <= 8; seen++) {
            Check.due("see() " + seen, ways.see(0, seen), seen);
        }
        Check.due("see(0, 9), the ninth", ways.see(0, 9), Check.FULL);
        Check.due("one that is seen already", ways.see(0, 1), Check.FULL);
        Check.due("first OUTSIDE: place", ways.see(16, 0), Check.OUTSIDE);
        Check.due("first OUTSIDE: hour", ways.see(0, 31), Check.OUTSIDE);
        Check.due("eight are seen", ways.count(5), 8);
        ways.forget();
        Check.due("one more when all is forgotten", ways.see(0, 0), 1);
    }

    private static void seeTheSameAgain() {
        StickWays ways = Check.of("kan,kbn");
        Check.due("see(0, 0)", ways.see(0, 0), 1);
        Check.due("see(0, 0) again", ways.see(0, 0), 2);
        Check.due("whose it can have been", ways.whose(), 1);
    }

    private static void forget() {
        Doc.says(17, "Nothing is SEEN any more: how much was.");
        StickWays ways = Check.of("kan,kbn");
        Check.due("forget() of nothing", ways.forget(), 0);
        ways.see(0, 0);
        Check.due("forget() of one", ways.forget(), 1);
        Check.due("nothing is seen any more", ways.count(5), 0);
        for (int seen = 0; seen < 8; seen++) {
            ways.see(15, 0);
        }
        Check.due("whose() of eight", ways.whose(), 0);
        Check.due("forget() of eight", ways.forget(), 8);
        Check.due("forget() again", ways.forget(), 0);
        Check.due("whose() of nothing", ways.whose(), 3);
        ways.see(1, 0);
        Check.due("of what is seen then, that alone counts", ways.whose(), 2);
    }

    private static void whose() {
        Doc.says(18, "WHOSE, as bits.");
        StickWays ways = Check.of("kan,kbn,kcn,kan");
        int[] bits = {1 | 8, 2, 4, 0};
        for (int place = 0; place < 4; place++) {
            ways.forget();
            ways.see(place, 30);
            Check.due("whose() at " + place, ways.whose(), bits[place]);
        }
    }

    private static void whoseWithoutHills() {
        Doc.says(18, "STATE: no HILLS.");
        StickWays ways = new StickWays();
        Check.due("whose()", ways.whose(), Check.STATE);
        ways.see(0, 0);
        Check.due("whose() of one that is seen", ways.whose(), Check.STATE);
    }

    private static void look() {
        Doc.says(19, "LOOK; NONE.");
        StickWays ways = Check.of("kaee,kaes,kaeee,kaese");
        Check.due("in fours at hours 0 and 1, in twos at 2, alone at 3", ways.look(), 3);
        ways.see(2, 2);
        Check.due("of the two that went east", ways.look(), 3);
        ways.see(5, 3);
        Check.due("of none", ways.look(), Check.NONE);
    }

    private static void lookWithoutHills() {
        Doc.says(19, "STATE: no HILLS.");
        StickWays ways = new StickWays();
        Check.due("look()", ways.look(), Check.STATE);
        ways.see(0, 0);
        Check.due("look() of one that is seen", ways.look(), Check.STATE);
    }

    private static void morningsTaken() {
        Doc.says(20, "MORNINGS: what = 0 how often two MEET, 1 how many PLACES, 2 the SEED then.");
        StickWays ways = Check.of("kaeee,kdwww,lfn");
        int[] seeds = {0, 1, 2147483647};
        int[] many = {1, 2, 20};
        int[][] meetings = {{1, 2, 28}, {2, 3, 29}, {0, 1, 27}};
        int[][] then = {
            {654583775, 1109335178, 321843028},
            {662824084, 368800899, 127474245},
            {646343466, 1849869457, 516211811},
        };
        for (int i = 0; i < seeds.length; i++) {
            for (int j = 0; j < many.length; j++) {
                String call = "mornings(" + many[j] + ", " + seeds[i] + ", ";
                Check.due(call + "0)", ways.mornings(many[j], seeds[i], 0), meetings[i][j]);
                Check.due(call + "1)", ways.mornings(many[j], seeds[i], 1), 5);
                Check.due(call + "2)", ways.mornings(many[j], seeds[i], 2), then[i][j]);
            }
        }
    }

    private static void morningsOutside() {
        Doc.says(20, "OUTSIDE: many (1 to 20), seed (0 at least), what;");
        StickWays ways = Check.of("kan");
        Check.due("mornings(0, 0, 0)", ways.mornings(0, 0, 0), Check.OUTSIDE);
        Check.due("mornings(-1, 0, 0)", ways.mornings(-1, 0, 0), Check.OUTSIDE);
        Check.due("mornings(21, 0, 0)", ways.mornings(21, 0, 0), Check.OUTSIDE);
        Check.due("mornings(most, 0, 0)", ways.mornings(Integer.MAX_VALUE, 0, 0), Check.OUTSIDE);
        Check.due("mornings(1, -1, 0)", ways.mornings(1, -1, 0), Check.OUTSIDE);
        Check.due("mornings(1, least, 2)", ways.mornings(1, Integer.MIN_VALUE, 2), Check.OUTSIDE);
        Check.due("mornings(1, 0, -1)", ways.mornings(1, 0, -1), Check.OUTSIDE);
        Check.due("mornings(1, 0, 3)", ways.mornings(1, 0, 3), Check.OUTSIDE);
        Check.due("mornings(20, most, 0)", ways.mornings(20, Integer.MAX_VALUE, 0), 0);
        Check.due("mornings(1, 0, 2)", ways.mornings(1, 0, 2), 12345);
    }

    private static void morningsWithoutHills() {
        Doc.says(20, "STATE: no HILLS.");
        StickWays ways = new StickWays();
        Check.due("mornings(1, 0, 0)", ways.mornings(1, 0, 0), Check.STATE);
        Check.due("mornings(20, most, 2)", ways.mornings(20, Integer.MAX_VALUE, 2), Check.STATE);
        Check.due("first OUTSIDE: many", ways.mornings(0, 0, 0), Check.OUTSIDE);
        Check.due("first OUTSIDE: many above", ways.mornings(21, 0, 0), Check.OUTSIDE);
        Check.due("first OUTSIDE: seed", ways.mornings(1, -1, 0), Check.OUTSIDE);
        Check.due("first OUTSIDE: what", ways.mornings(1, 0, 3), Check.OUTSIDE);
        Check.due("first OUTSIDE: what below", ways.mornings(1, 0, -1), Check.OUTSIDE);
    }
}
