/** The first lines of the document, clause by clause, as the calls tell it. */
final class EdgesOfStory {
    private EdgesOfStory() {
    }

    static void check() {
        waysGoWithSticks();
        seenInTheRain();
        cuttingShortens();
        crooksTurnBack();
        twoBrothers();
        lameAreSlowest();
        hadOutAtTwo();
        aText();
        mornings();
        cutSawnBegunLater();
        whatWouldBe();
        whoseItWas();
        bySeed();
    }

    private static void says(String clause) {
        Doc.says(Doc.WHAT_IT_IS, clause);
    }

    private static void waysGoWithSticks() {
        says("Walking sticks inherit the way: in these hills the path is not by land but by stick,"
            + " each goes where it has always gone, and whoever has it must,");
        StickWays ways = Check.of("kfnn,kfes,kfww,kfss");
        for (int morning = 0; morning < 2; morning++) {
            Check.walk("from one place, north", ways, 0, 5, 1, 1);
            Check.walk("from one place, east", ways, 1, 5, 6, 10);
            Check.walk("from one place, west", ways, 2, 5, 4, 4);
        }
        Check.walk("from one place, south", ways, 3, 5, 9, 13);
    }

    private static void seenInTheRain() {
        says("so heirs are seen in the rain,");
        StickWays ways = Check.of("kaees,lpwn");
        Check.due("they pass seven places", ways.count(2), 7);
        ways.late(0, 9);
        ways.late(1, 4);
        Check.due("whenever they begin", ways.count(2), 7);
    }

    private static void cuttingShortens() {
        says("cutting it short shortens the road,");
        StickWays ways = Check.of("kaeeess");
        Check.due("it had five steps", ways.cut(0, 3), 5);
        Check.due("now three", ways.stick(0, 2), 3);
        Check.due("it is there sooner", ways.stick(0, 4), 3);
        Check.due("and nearer", ways.stick(0, 5), 3);
        Check.due("at fewer places", ways.stick(0, 6), 4);
    }

    private static void crooksTurnBack() {
        says("crooks turn back,");
        Check.walk("a crook", Check.of("caees"), 0, 0, 1, 2, 6, 2, 1, 0);
    }

    private static void twoBrothers() {
        says("two brothers sawed one and each has half of the walk,");
        StickWays ways = Check.of("kaeess");
        Check.walk("the walk", ways, 0, 0, 1, 2, 6, 10);
        Check.due("the second brother's", ways.saw(0, 2), 1);
        Check.walk("the first half", ways, 0, 0, 1, 2);
        Check.walk("the second half", ways, 1, 2, 6, 10);
    }

    private static void lameAreSlowest() {
        says("lame men have the slowest,");
        StickWays ways = Check.of("kiee,ciee,xkww,liee");
        for (int stick = 0; stick < 3; stick++) {
            Check.due("not lame, gone at hour 1: " + stick, ways.at(stick, 1) != ways.stick(stick, 1));
        }
        Check.due("lame, still there at hour 1", ways.at(3, 1), 8);
        Check.due("lame, gone at hour 2", ways.at(3, 2), 9);
        Check.due("two steps in four hours", ways.stick(3, 4), 4);
    }

    private static void hadOutAtTwo() {
        says("a stick was had out at two;");
        StickWays ways = Check.of("kae");
        ways.late(0, 2);
        Check.walk("out at two", ways, 0, 0, 0, 0, 1);
    }

    private static void aText() {
        says("hills as a text of sticks of kinds with where they begin and how they go;");
        StickWays ways = Check.of("kan,cbe,lcs,xpw");
        for (int stick = 0; stick < 4; stick++) {
            Check.due("kind", ways.stick(stick, 0), stick);
            Check.due("where it begins", ways.stick(stick, 1), stick < 3 ? stick : 15);
            Check.due("how it goes", ways.stick(stick, 10), stick);
        }
    }

    private static void mornings() {
        says("mornings by the hour, who is where, who meets whom;");
        StickWays ways = Check.of("kae,kcw,kie");
        Check.due("who is where at hour 0", ways.at(1, 0), 2);
        Check.due("and at hour 1", ways.at(1, 1), 1);
        Check.due("these two meet", ways.meet(0, 1), 30);
        Check.due("these do not", ways.meet(0, 2), 0);
    }

    private static void cutSawnBegunLater() {
        says("sticks cut, sawn, begun later;");
        StickWays ways = Check.of("kaeees");
        Check.due("cut", ways.cut(0, 3), 4);
        Check.due("sawn", ways.saw(0, 1), 1);
        Check.due("begun later", ways.late(1, 4), 0);
        Check.walk("what is left of it", ways, 0, 0, 1);
        Check.walk("the rest", ways, 1, 1, 1, 1, 1, 1, 2, 3);
        Check.due("three changes", ways.count(4), 3);
    }

    private static void whatWouldBe() {
        says("how much later one must begin so that it meets another one, by which few sticks some places"
            + " are seen, how soon one could catch one;");
        StickWays ways = Check.of("kaees,cbes");
        Check.due("an hour later", ways.later(0, 1), 1);
        Check.due("places 0 and 6 by one", ways.cover(1 | 1 << 6, 0), 1);
        Check.due("by the first", ways.cover(1 | 1 << 6, 1), 1);
        Check.due("from the far corner at hour 3", ways.catches(15, 0), 3);
        Check.due("all this only would be", ways.count(4), 0);
    }

    private static void whoseItWas() {
        says("whose stick it was, by where it was when, when to look next;");
        StickWays ways = Check.of("kaees,kaess,kaeen");
        ways.see(1, 1);
        Check.due("any of the three", ways.whose(), 7);
        Check.due("at hour 3 all are apart", ways.look(), 3);
        ways.see(2, 2);
        Check.due("not the second", ways.whose(), 5);
        ways.see(6, 3);
        Check.due("the first", ways.whose(), 1);
    }

    private static void bySeed() {
        says("mornings by a seed.");
        StickWays ways = Check.of("kaee,kces");
        int seed = ways.mornings(1, 7, 2);
        Check.due("two draws", seed, (int) ((1103515245L * ((1103515245L * 7 + 12345) % (1L << 31)) + 12345) % (1L << 31)));
        Check.due("the same again", ways.mornings(1, 7, 2), seed);
        int first = ways.mornings(1, 7, 0);
        Check.due("one morning behind the other", ways.mornings(2, 7, 0), first + ways.mornings(1, seed, 0));
    }
}
