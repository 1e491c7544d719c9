/** Promises 10 to 12: sticks late, cut and sawn. */
final class SticksTest {
    public static void main(String[] args) {
        promise10Late();
        promise11Cut();
        promise12Saw();
        promise12SawOfEachKind();
        promise12SawUntilFull();
        Check.end();
    }

    private static void promise10Late() {
        StickWays ways = Check.of("kae,kbe");
        Check.due("late(0, 9)", ways.late(0, 9), 0);
        Check.due("late(0, 2)", ways.late(0, 2), 9);
        Check.due("late(0, 2) again", ways.late(0, 2), 2);
        Check.due("changes, also where it was so", ways.count(4), 3);
        Check.due("the other one is not late", ways.stick(1, 3), 0);
        Check.walk("late by 2", ways, 0, 0, 0, 0, 1);
        long[] before = Check.told(ways);
        Check.due("late(0, 10)", ways.late(0, 10), Check.OUTSIDE);
        Check.due("late(2, 1)", ways.late(2, 1), Check.UNKNOWN);
        Check.due("late(2, 10)", ways.late(2, 10), Check.UNKNOWN);
        for (int wrong : Check.WRONG) {
            Check.due("late(0, " + wrong + ")", ways.late(0, wrong), Check.OUTSIDE);
            Check.due("late(" + wrong + ", 0)", ways.late(wrong, 0), Check.UNKNOWN);
        }
        Check.unchanged("late() refused", ways, before);
        Check.due("late(0, 0)", ways.late(0, 0), 2);
    }

    private static void promise11Cut() {
        StickWays ways = Check.of("caeesse,kbe");
        ways.late(0, 4);
        Check.due("cut(0, 5)", ways.cut(0, 5), 5);
        Check.due("cut(0, 3)", ways.cut(0, 3), 5);
        Check.due("cut(0, 3) again", ways.cut(0, 3), 3);
        Check.due("changes, also where it was so", ways.count(4), 4);
        Check.due("steps left", ways.stick(0, 2), 3);
        Check.due("third step", ways.stick(0, 12), 2);
        Check.due("fourth step", ways.stick(0, 13), Check.NONE);
        Check.walk("cut and late", ways, 0, 0, 0, 0, 0, 0, 1, 2, 6, 2, 1, 0);
        long[] before = Check.told(ways);
        Check.due("cut(0, 0)", ways.cut(0, 0), Check.OUTSIDE);
        Check.due("cut(0, 4)", ways.cut(0, 4), Check.OUTSIDE);
        Check.due("cut(2, 1)", ways.cut(2, 1), Check.UNKNOWN);
        Check.due("cut(2, 0)", ways.cut(2, 0), Check.UNKNOWN);
        for (int wrong : Check.WRONG) {
            Check.due("cut(0, " + wrong + ")", ways.cut(0, wrong), Check.OUTSIDE);
            Check.due("cut(" + wrong + ", 1)", ways.cut(wrong, 1), Check.UNKNOWN);
        }
        Check.unchanged("cut() refused", ways, before);
        Check.due("cut(0, 1)", ways.cut(0, 1), 3);
    }

    private static void promise12Saw() {
        StickWays ways = Check.of("kaeessn,kpn");
        ways.late(0, 3);
        long[] before = Check.told(ways);
        Check.due("saw(0, 0)", ways.saw(0, 0), Check.OUTSIDE);
        Check.due("saw(0, 5)", ways.saw(0, 5), Check.OUTSIDE);
        Check.due("saw of one step", ways.saw(1, 1), Check.OUTSIDE);
        Check.due("saw(2, 1)", ways.saw(2, 1), Check.UNKNOWN);
        Check.due("saw(2, 0)", ways.saw(2, 0), Check.UNKNOWN);
        for (int wrong : Check.WRONG) {
            Check.due("saw(0, " + wrong + ")", ways.saw(0, wrong), Check.OUTSIDE);
            Check.due("saw(" + wrong + ", 1)", ways.saw(wrong, 1), Check.UNKNOWN);
        }
        Check.unchanged("saw() refused", ways, before);
        Check.due("saw(0, 3)", ways.saw(0, 3), 2);
        Check.due("changes", ways.count(4), 2);
        Check.due("sticks", ways.count(0), 3);
        Check.due("the first one stays late", ways.stick(0, 3), 3);
        Check.due("the rest is not late", ways.stick(2, 3), 0);
        Check.walk("the first part", ways, 0, 0, 0, 0, 0, 1, 2, 6);
        Check.walk("the rest", ways, 2, 6, 10, 6);
        Check.due("step of the rest", ways.stick(2, 10), 2);
        Check.due("saw of the rest", ways.saw(2, 1), 3);
        Check.due("the rest of the rest begins", ways.stick(3, 1), 10);
    }

    private static void promise12SawOfEachKind() {
        String kinds = "kclxa";
        for (int kind = 0; kind < kinds.length(); kind++) {
            StickWays ways = Check.of(kinds.charAt(kind) + "fees");
            Check.due("saw of kind " + kind, ways.saw(0, 1), 1);
            Check.due("kind of the rest", ways.stick(1, 0), kind);
            Check.due("where the rest begins as if plain", ways.stick(1, 1), 6);
            Check.due("steps of the rest", ways.stick(1, 2), 2);
        }
        StickWays edge = Check.of("xdees");
        edge.saw(0, 2);
        Check.due("a step off the hills leads nowhere", edge.stick(1, 1), 3);
    }

    private static void promise12SawUntilFull() {
        StickWays ways = Check.of("kaeeeee,kan");
        for (int stick = 2; stick < 6; stick++) {
            Check.due("saw until full", ways.saw(0, ways.stick(0, 2) - 1), stick);
        }
        Check.due("sticks", ways.count(0), 6);
        StickWays full = Check.of("kaeee,kaee,kaee,kaee");
        full.saw(0, 2);
        full.saw(1, 1);
        long[] before = Check.told(full);
        Check.due("saw of a seventh", full.saw(2, 1), Check.FULL);
        Check.due("saw outside of a seventh", full.saw(2, 2), Check.OUTSIDE);
        Check.due("saw of none of a seventh", full.saw(6, 1), Check.UNKNOWN);
        Check.unchanged("saw() of a seventh", full, before);
    }
}
