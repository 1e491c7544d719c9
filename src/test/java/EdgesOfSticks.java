/** The edges that the document names for sticks that are late, cut and sawn: promises 10 to 12. */
final class EdgesOfSticks {
    private EdgesOfSticks() {
    }

    static void check() {
        cutToOneAtLeast();
        sawnBothPartsHaveOne();
        sawnIntoSixAtMost();
        sawnRestIsNotLate();
        sawnRestBeginsAsIfPlain();
        late();
        cut();
        saw();
        sawFull();
        sticksOfEachNumber();
    }

    // ---- terms

    private static void cutToOneAtLeast() {
        Doc.says(Doc.TERMS, "CUT to so many STEPS (1 at least) it has no more than those.");
        StickWays ways = Check.of("kaeeess");
        Check.due("cut(0, 0)", ways.cut(0, 0), Check.OUTSIDE);
        Check.due("cut(0, 1)", ways.cut(0, 1), 5);
        Check.walk("cut to one step", ways, 0, 0, 1);
        Check.due("its first step stays", ways.stick(0, 10), 1);
        Check.due("its second is gone", ways.stick(0, 11), Check.NONE);
        Check.due("cut(0, 0) of one", ways.cut(0, 0), Check.OUTSIDE);
        Check.due("cut(0, 1) of one", ways.cut(0, 1), 1);
        StickWays crook = Check.of("caeeess");
        crook.cut(0, 2);
        Check.walk("a crook turns back sooner", crook, 0, 0, 1, 2, 1, 0);
        StickWays alp = Check.of("aaeeess");
        alp.cut(0, 1);
        Check.walk("an alp, too", alp, 0, 0, 1, 0, 1, 0);
    }

    private static void sawnBothPartsHaveOne() {
        Doc.says(Doc.TERMS, "SAWN behind so many (both parts have 1 at least) it has those, and the rest is"
            + " a new STICK of its KIND (6 STICKS at most), not LATE,");
        for (int had = 1; had <= 5; had++) {
            for (int steps = -1; steps <= 6; steps++) {
                StickWays ways = Check.of("kf" + "neswn".substring(0, had));
                boolean both = steps >= 1 && had - steps >= 1;
                Check.due("saw(0, " + steps + ") of " + had, ways.saw(0, steps), both ? 1 : Check.OUTSIDE);
                Check.due("the first has then", ways.stick(0, 2), both ? steps : had);
                Check.due("the rest has then", ways.stick(1, 2), both ? had - steps : Check.UNKNOWN);
                Check.due("steps of all, as before", ways.count(1), had);
            }
        }
        StickWays ways = Check.of("kfneswn");
        ways.saw(0, 2);
        int[] first = {0, 1, Check.NONE, Check.NONE, Check.NONE};
        int[] rest = {2, 3, 0, Check.NONE, Check.NONE};
        for (int step = 0; step < 5; step++) {
            Check.due("step " + step + " of the first", ways.stick(0, 10 + step), first[step]);
            Check.due("step " + step + " of the rest", ways.stick(1, 10 + step), rest[step]);
        }
        for (int kind = 0; kind < 5; kind++) {
            StickWays ofKind = Check.of("kclxa".charAt(kind) + "fne");
            ofKind.saw(0, 1);
            Check.due("kind of the first", ofKind.stick(0, 0), kind);
            Check.due("kind of the rest", ofKind.stick(1, 0), kind);
        }
    }

    private static void sawnIntoSixAtMost() {
        StickWays ways = Check.of("kaeeess");
        Check.due("a second", ways.saw(0, 4), 1);
        Check.due("a third", ways.saw(0, 3), 2);
        Check.due("a fourth", ways.saw(0, 2), 3);
        Check.due("a fifth", ways.saw(0, 1), 4);
        Check.due("no stick has two steps", ways.saw(0, 1), Check.OUTSIDE);
        StickWays four = Check.of("kaeee,kan,kan,kan");
        Check.due("a fifth of four", four.saw(0, 2), 4);
        Check.due("a sixth", four.saw(0, 1), 5);
        Check.due("there are six", four.count(0), 6);
        StickWays six = Check.of("kaee,kaee,kaee,kan");
        Check.due("a fifth by the first", six.saw(0, 1), 4);
        Check.due("a sixth by the second", six.saw(1, 1), 5);
        Check.due("no seventh", six.saw(2, 1), Check.FULL);
        Check.due("there are six still", six.count(0), 6);
        Check.due("the third is whole", six.stick(2, 2), 2);
    }

    private static void sawnRestIsNotLate() {
        StickWays ways = Check.of("kaeee");
        ways.late(0, 9);
        ways.saw(0, 1);
        Check.due("the first stays late", ways.stick(0, 3), 9);
        Check.due("the rest is not late", ways.stick(1, 3), 0);
        Check.walk("the rest goes at once", ways, 1, 1, 2, 3);
        StickWays again = Check.of("kaeee");
        again.image();
        again.saw(0, 1);
        again.late(1, 7);
        again.restore();
        again.saw(0, 2);
        Check.due("nor late as another was that is no more", again.stick(1, 3), 0);
    }

    private static void sawnRestBeginsAsIfPlain() {
        Doc.says(Doc.TERMS, "that BEGINS where the first one would be behind its STEPS, if it was a plain"
            + " STICK (KIND 0).");
        for (char kind : "kclxa".toCharArray()) {
            StickWays ways = Check.of(kind + "fnes");
            ways.late(0, 9);
            ways.saw(0, 2);
            Check.due(kind + ": the rest begins", ways.stick(1, 1), 2);
            StickWays edge = Check.of(kind + "dnews");
            edge.saw(0, 3);
            Check.due(kind + ": steps off the hills lead nowhere", edge.stick(1, 1), 2);
        }
        StickWays cross = Check.of("xkee");
        cross.saw(0, 1);
        Check.walk("a cross one goes the other way", cross, 0, 10, 9);
        Check.walk("its rest begins on the plain way", cross, 1, 11, 10);
    }

    // ---- promises

    private static void late() {
        Doc.says(10, "It is LATE by so many HOURS: by how many it was. UNKNOWN; OUTSIDE: hours (0 to 9).");
        StickWays ways = Check.of("kae,kbe");
        Check.due("late(1, 9)", ways.late(1, 9), 0);
        Check.due("late(1, 10)", ways.late(1, 10), Check.OUTSIDE);
        Check.due("late(1, -1)", ways.late(1, -1), Check.OUTSIDE);
        Check.due("late(1, 0)", ways.late(1, 0), 9);
        Check.due("late(1, 0) again", ways.late(1, 0), 0);
        Check.due("late(2, 0)", ways.late(2, 0), Check.UNKNOWN);
        Check.due("late(-1, 0)", ways.late(-1, 0), Check.UNKNOWN);
        Check.due("late(2, 10)", ways.late(2, 10), Check.UNKNOWN);
        Check.due("three changes", ways.count(4), 3);
    }

    private static void cut() {
        Doc.says(11, "It is CUT: how many STEPS it had. UNKNOWN; OUTSIDE: steps (1 to as many as it has).");
        for (int had = 1; had <= 5; had++) {
            for (int steps = -1; steps <= 6; steps++) {
                StickWays ways = Check.of("kf" + "neswn".substring(0, had));
                boolean taken = steps >= 1 && steps <= had;
                Check.due("cut(0, " + steps + ") of " + had, ways.cut(0, steps), taken ? had : Check.OUTSIDE);
                Check.due("it has then", ways.stick(0, 2), taken ? steps : had);
                Check.due("changes then", ways.count(4), taken ? 1 : 0);
            }
        }
        StickWays ways = Check.of("kae");
        Check.due("cut(1, 1)", ways.cut(1, 1), Check.UNKNOWN);
        Check.due("cut(-1, 1)", ways.cut(-1, 1), Check.UNKNOWN);
        Check.due("cut(1, 0)", ways.cut(1, 0), Check.UNKNOWN);
    }

    private static void saw() {
        Doc.says(12, "It is SAWN: the number of the new STICK. UNKNOWN; OUTSIDE: steps (1 to 1 less than it has);");
        StickWays ways = Check.of("kae,kaee,kaeeess");
        Check.due("saw(0, 1) of one step", ways.saw(0, 1), Check.OUTSIDE);
        Check.due("saw(1, 0)", ways.saw(1, 0), Check.OUTSIDE);
        Check.due("saw(1, 2)", ways.saw(1, 2), Check.OUTSIDE);
        Check.due("saw(2, 5)", ways.saw(2, 5), Check.OUTSIDE);
        Check.due("saw(3, 1)", ways.saw(3, 1), Check.UNKNOWN);
        Check.due("saw(-1, 1)", ways.saw(-1, 1), Check.UNKNOWN);
        Check.due("saw(3, 0)", ways.saw(3, 0), Check.UNKNOWN);
        Check.due("no change yet", ways.count(4), 0);
        Check.due("saw(1, 1)", ways.saw(1, 1), 3);
        Check.due("saw(2, 4)", ways.saw(2, 4), 4);
        Check.due("saw(2, 1)", ways.saw(2, 1), 5);
        Check.due("three changes", ways.count(4), 3);
    }

    private static void sawFull() {
        Doc.says(12, "FULL.");
        StickWays ways = Check.of("kaeee,kaeee,kaeee,kaee");
        ways.saw(0, 1);
        Check.due("a sixth is not too many", ways.saw(1, 1), 5);
        Check.due("a seventh by saw(2, 1)", ways.saw(2, 1), Check.FULL);
        Check.due("a seventh by saw(2, 2)", ways.saw(2, 2), Check.FULL);
        Check.due("a seventh by saw(5, 1)", ways.saw(5, 1), Check.FULL);
        Check.due("first OUTSIDE: too few", ways.saw(2, 0), Check.OUTSIDE);
        Check.due("first OUTSIDE: too many", ways.saw(2, 3), Check.OUTSIDE);
        Check.due("first UNKNOWN", ways.saw(6, 1), Check.UNKNOWN);
        Check.due("first UNKNOWN, then OUTSIDE", ways.saw(-1, 0), Check.UNKNOWN);
        Check.due("two changes", ways.count(4), 2);
    }

    /** Each call knows the sixth stick, and none knows the seventh. */
    private static void sticksOfEachNumber() {
        StickWays ways = Check.of("kaeee,lfeee,xgww,apnn");
        ways.saw(0, 1);
        ways.saw(1, 1);
        Check.due("stick(5, 0)", ways.stick(5, 0), 2);
        Check.due("stick(6, 0)", ways.stick(6, 0), Check.UNKNOWN);
        Check.due("as(5, 2)", ways.as(5, 2), 5);
        Check.due("as(6, 0)", ways.as(6, 0), Check.UNKNOWN);
        Check.due("at(5, 30)", ways.at(5, 30), 7);
        Check.due("at(6, 30)", ways.at(6, 30), Check.UNKNOWN);
        Check.due("meet(5, 2)", ways.meet(5, 2), 30);
        Check.due("meet(6, 1)", ways.meet(6, 1), Check.UNKNOWN);
        Check.due("meet(1, 6)", ways.meet(1, 6), Check.UNKNOWN);
        Check.due("later(1, 5)", ways.later(1, 5), 1);
        Check.due("later(6, 1)", ways.later(6, 1), Check.UNKNOWN);
        Check.due("later(1, 6)", ways.later(1, 6), Check.UNKNOWN);
        Check.due("catches(6, 5)", ways.catches(6, 5), 0);
        Check.due("catches(6, 6)", ways.catches(6, 6), Check.UNKNOWN);
        Check.due("cut(5, 1)", ways.cut(5, 1), 2);
        Check.due("cut(6, 1)", ways.cut(6, 1), Check.UNKNOWN);
        Check.due("late(5, 9)", ways.late(5, 9), 0);
        Check.due("late(6, 9)", ways.late(6, 9), Check.UNKNOWN);
        Check.due("saw(5, 1)", ways.saw(5, 1), Check.OUTSIDE);
        Check.due("saw(6, 1)", ways.saw(6, 1), Check.UNKNOWN);
    }
}
