/** Promises 13 to 15: what would be. */
final class WouldBeTest {
    public static void main(String[] args) {
        promise13Later();
        promise14Cover();
        promise15Catches();
        Check.end();
    }

    private static void promise13Later() {
        StickWays ways = Check.of("leww,kee,kpn");
        ways.late(0, 1);
        long[] before = Check.told(ways);
        Check.due("they begin together", ways.later(0, 1), 0);
        Check.due("they never meet", ways.later(0, 2), Check.NONE);
        Check.unchanged("later()", ways, before);

        StickWays crossing = Check.of("kassss,keee");
        Check.due("the second one waits", crossing.later(0, 1), 1);
        Check.due("the first one waits", crossing.later(1, 0), Check.NONE);
        crossing.late(0, 8);
        Check.due("the second one waits longer", crossing.later(0, 1), 9);
        crossing.late(0, 9);
        Check.due("ten hours are too many", crossing.later(0, 1), Check.NONE);
        crossing.late(0, 0);
        crossing.late(1, 9);
        Check.due("in all, not on top", crossing.later(0, 1), 1);

        Check.due("later(0, 0)", ways.later(0, 0), Check.UNKNOWN);
        Check.due("later(0, 3)", ways.later(0, 3), Check.UNKNOWN);
        Check.due("later(3, 0)", ways.later(3, 0), Check.UNKNOWN);
        for (int wrong : Check.WRONG) {
            Check.due("later(0, " + wrong + ")", ways.later(0, wrong), Check.UNKNOWN);
            Check.due("later(" + wrong + ", 0)", ways.later(wrong, 0), Check.UNKNOWN);
        }
    }

    private static void promise14Cover() {
        StickWays ways = Check.of("kae,kbe,kcww,kds");
        cover(ways, 0, 0, 0);
        cover(ways, 1, 1, 1);
        cover(ways, 2, 1, 1);
        cover(ways, 4, 1, 2);
        cover(ways, 7, 1, 4);
        cover(ways, 8, 1, 8);
        cover(ways, 8 | 128 | 1, 2, 9);
        cover(ways, 8 | 4 | 1, 2, 12);
        cover(ways, 1 << 15, Check.NONE, Check.NONE);
        cover(ways, 65535, Check.NONE, Check.NONE);
        ways.late(0, 9);
        cover(ways, 2, 1, 1);
        cover(Check.of("kaeee,kessss,cbse"), 1 | 2 | 32, 2, 5);
        cover(Check.of("aoe"), 1 << 15, 1, 1);

        Check.due("cover(65536, 0)", ways.cover(65536, 0), Check.OUTSIDE);
        Check.due("cover(1, 2)", ways.cover(1, 2), Check.OUTSIDE);
        for (int wrong : Check.WRONG) {
            Check.due("cover(" + wrong + ", 0)", ways.cover(wrong, 0), Check.OUTSIDE);
            Check.due("cover(1, " + wrong + ")", ways.cover(1, wrong), Check.OUTSIDE);
        }
        StickWays none = new StickWays();
        Check.due("cover(0, 0) without hills", none.cover(0, 0), Check.STATE);
        Check.due("cover(65535, 1) without hills", none.cover(65535, 1), Check.STATE);
        Check.due("cover(-1, 0) without hills", none.cover(-1, 0), Check.OUTSIDE);
        Check.due("cover(1, 2) without hills", none.cover(1, 2), Check.OUTSIDE);
    }

    private static void cover(StickWays ways, int places, int few, int which) {
        Check.due("cover(" + places + ", 0)", ways.cover(places, 0), few);
        Check.due("cover(" + places + ", 1)", ways.cover(places, 1), which);
    }

    private static void promise15Catches() {
        StickWays ways = Check.of("kan,kaeee,kmnnn");
        Check.due("at once", ways.catches(0, 0), 0);
        Check.due("one that stays", ways.catches(15, 0), 6);
        Check.due("beside it", ways.catches(4, 0), 1);
        Check.due("one that goes away", ways.catches(4, 1), 4);
        Check.due("one that comes", ways.catches(3, 1), 2);
        Check.due("one across", ways.catches(3, 2), 3);
        ways.late(1, 9);
        Check.due("one that is late", ways.catches(3, 1), 3);
        Check.due("catches(16, 0)", ways.catches(16, 0), Check.OUTSIDE);
        Check.due("catches(0, 3)", ways.catches(0, 3), Check.UNKNOWN);
        Check.due("catches(16, 3)", ways.catches(16, 3), Check.UNKNOWN);
        for (int wrong : Check.WRONG) {
            Check.due("catches(" + wrong + ", 0)", ways.catches(wrong, 0), Check.OUTSIDE);
            Check.due("catches(0, " + wrong + ")", ways.catches(0, wrong), Check.UNKNOWN);
        }
    }
}
