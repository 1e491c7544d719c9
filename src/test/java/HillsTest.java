/** Promises 1 to 9: the hills. */
final class HillsTest {
    public static void main(String[] args) {
        promise1NewObject();
        promise2Letter();
        promise3Blank();
        promise4Fault();
        promise5Hills();
        promise6Stick();
        promise7As();
        promise8At();
        promise8AtOfEachKind();
        promise9Meet();
        Check.end();
    }

    private static void promise1NewObject() {
        StickWays ways = new StickWays();
        for (int what = 0; what < 8; what++) {
            Check.due("new: count(" + what + ")", ways.count(what), 0);
        }
        Check.due("new: stick(0, 0)", ways.stick(0, 0), Check.UNKNOWN);
        Check.due("new: whose()", ways.whose(), Check.STATE);
        Check.due("new: image()", ways.image(), Check.STATE);
        Check.due("new: restore()", ways.restore(), Check.STATE);
    }

    private static void promise2Letter() {
        StickWays ways = new StickWays();
        Check.due("letter(0)", ways.letter(0), Check.OUTSIDE);
        Check.due("letter(127)", ways.letter(127), Check.OUTSIDE);
        Check.due("letter(1)", ways.letter(1), 1);
        Check.due("letter(126)", ways.letter(126), 2);
        for (int wrong : Check.WRONG) {
            Check.due("letter(" + wrong + ")", ways.letter(wrong), Check.OUTSIDE);
        }
        for (int length = 3; length <= 32; length++) {
            Check.due("letter " + length, ways.letter('k'), length);
        }
        long[] before = Check.told(ways);
        Check.due("letter 33", ways.letter('k'), Check.FULL);
        Check.due("letter(0) on a full page", ways.letter(0), Check.OUTSIDE);
        Check.unchanged("letter refused", ways, before);
    }

    private static void promise3Blank() {
        StickWays ways = Check.page("kan");
        Check.due("blank()", ways.blank(), 3);
        Check.due("blank() again", ways.blank(), 0);
        Check.due("letters behind blank()", ways.count(6), 0);
        Check.due("letter behind blank()", ways.letter('k'), 1);
    }

    private static void promise4Fault() {
        fault("", 0);
        fault("k", 1);
        fault("ka", 2);
        fault("kan", 3);
        fault("kaneswn", 7);
        fault("b", 0);
        fault("K", 0);
        fault("kq", 1);
        fault("kp", 2);
        fault("k`", 1);
        fault("ka,", 2);
        fault(",", 0);
        fault("k,", 1);
        fault("kax", 2);
        fault("kanx", 3);
        fault("kaneswnn", 7);
        fault("kaneswn,", 8);
        fault("kan,,", 4);
        fault("kan,k", 5);
        fault("kan,can,lan,xan", 15);
        fault("kan,can,lan,xan,", 15);
        fault("kan,can,lan,xan,a", 15);
        fault("kannnnn,cannnnn,lannnnn,xannnnn", 31);
        fault("kannnnn,cannnnn,lannnnn,xannnnnn", 31);
        fault("kan can", 3);
    }

    private static void fault(String text, int want) {
        StickWays ways = Check.page(text);
        Check.due("fault() of " + text, ways.fault(), want);
        Check.due("letters behind fault() of " + text, ways.count(6), text.length());
    }

    private static void promise5Hills() {
        String[] none = {"", "k", "ka", "kan,", "kan,k", "kan,kb", "kan,kb,", "kanx", "zan", "kannnnnn",
            "kan,can,lan,xan,aan"};
        for (String text : none) {
            StickWays ways = Check.page(text);
            Check.due("hills() of " + text, ways.hills(), Check.STATE);
            Check.due("letters behind hills() of " + text, ways.count(6), text.length());
            Check.due("hills() of " + text + " count", ways.count(7), 0);
        }
        StickWays ways = Check.of("kannnnn,cannnnn,lannnnn,xannnnn");
        Check.due("page behind hills()", ways.count(6), 0);
        hillsOverOthers();
        hillsRefusedOverOthers();
    }

    private static void hillsOverOthers() {
        StickWays ways = Check.of("kanes,cfn");
        ways.late(0, 5);
        ways.saw(0, 1);
        ways.see(0, 0);
        ways.image();
        Check.write(ways, "lpws");
        Check.due("hills() over others", ways.hills(), 1);
        Check.due("times read", ways.count(7), 2);
        Check.due("sticks of the new hills", ways.count(0), 1);
        Check.due("changes are gone", ways.count(4), 0);
        Check.due("what was seen is gone", ways.count(5), 0);
        Check.due("lateness is gone", ways.stick(0, 3), 0);
        Check.due("the image is gone", ways.restore(), Check.STATE);
        Check.due("new kind", ways.stick(0, 0), 2);
        Check.due("new begin", ways.stick(0, 1), 15);
        Check.due("new first step", ways.stick(0, 10), 3);
        Check.due("new second step", ways.stick(0, 11), 2);
        Check.due("no third step", ways.stick(0, 12), Check.NONE);
    }

    private static void hillsRefusedOverOthers() {
        StickWays ways = Check.of("kanes,cfn");
        ways.late(0, 5);
        ways.see(0, 0);
        ways.image();
        Check.write(ways, "kq");
        long[] before = Check.told(ways);
        Check.due("hills() of kq", ways.hills(), Check.STATE);
        Check.unchanged("hills() refused", ways, before);
        Check.due("the image stays", ways.restore(), 1);
    }

    private static void promise6Stick() {
        StickWays ways = Check.of("lfnesww,xben,aaees,cbn");
        int[][] want = {
            {2, 5, 5, 0, 10, 4, 5},
            {3, 1, 2, 0, 2, 4, 3},
            {4, 0, 3, 0, 12, 0, 4},
            {1, 1, 1, 0, 2, 5, 2},
        };
        for (int stick = 0; stick < want.length; stick++) {
            for (int what = 0; what < want[stick].length; what++) {
                Check.due("stick(" + stick + ", " + what + ")", ways.stick(stick, what), want[stick][what]);
            }
        }
        int[] steps = {0, 1, 2, 3, 3};
        for (int step = 0; step < 5; step++) {
            Check.due("step " + step, ways.stick(0, 10 + step), steps[step]);
        }
        Check.due("first step of a cross as written", ways.stick(1, 10), 1);
        Check.due("second step of a cross as written", ways.stick(1, 11), 0);
        Check.due("third step of a cross", ways.stick(1, 12), Check.NONE);
        ways.late(0, 9);
        Check.due("how late", ways.stick(0, 3), 9);
        Check.due("end when late", ways.stick(0, 4), 19);
        stickRefused(ways);
    }

    private static void stickRefused(StickWays ways) {
        int[] outside = {-1, 7, 8, 9, 15, Integer.MIN_VALUE, Integer.MAX_VALUE};
        for (int what : outside) {
            Check.due("stick(0, " + what + ")", ways.stick(0, what), Check.OUTSIDE);
        }
        Check.due("stick(4, 0)", ways.stick(4, 0), Check.UNKNOWN);
        Check.due("stick(4, 7)", ways.stick(4, 7), Check.UNKNOWN);
        for (int wrong : Check.WRONG) {
            Check.due("stick(" + wrong + ", 0)", ways.stick(wrong, 0), Check.UNKNOWN);
        }
    }

    private static void promise7As() {
        StickWays ways = Check.of("aan,xan,lan,can");
        int[][] want = {
            {0, 0, -1, -1, 0},
            {1, -1, -1, 1, -1},
            {2, -1, 2, -1, -1},
            {3, 3, -1, -1, -1},
        };
        for (int stick = 0; stick < 4; stick++) {
            for (int kind = 0; kind < 5; kind++) {
                Check.due("as(" + stick + ", " + kind + ")", ways.as(stick, kind), want[stick][kind]);
            }
        }
        Check.due("as(0, 5)", ways.as(0, 5), Check.OUTSIDE);
        Check.due("as(4, 0)", ways.as(4, 0), Check.UNKNOWN);
        Check.due("as(4, 5)", ways.as(4, 5), Check.UNKNOWN);
        for (int wrong : Check.WRONG) {
            Check.due("as(0, " + wrong + ")", ways.as(0, wrong), Check.OUTSIDE);
            Check.due("as(" + wrong + ", 0)", ways.as(wrong, 0), Check.UNKNOWN);
        }
        StickWays plain = Check.of("kan");
        Check.due("a plain stick is a stick", plain.as(0, 0), 0);
        Check.due("a plain stick is no crook", plain.as(0, 1), Check.NONE);
    }

    private static void promise8At() {
        StickWays ways = Check.of("kan,kps");
        Check.due("at(0, 31)", ways.at(0, 31), Check.OUTSIDE);
        Check.due("at(0, 30)", ways.at(0, 30), 0);
        Check.due("at(2, 0)", ways.at(2, 0), Check.UNKNOWN);
        Check.due("at(2, 31)", ways.at(2, 31), Check.UNKNOWN);
        for (int wrong : Check.WRONG) {
            Check.due("at(0, " + wrong + ")", ways.at(0, wrong), Check.OUTSIDE);
            Check.due("at(" + wrong + ", 0)", ways.at(wrong, 0), Check.UNKNOWN);
        }
    }

    private static void promise8AtOfEachKind() {
        Check.walk("plain", Check.of("kfnesw"), 0, 5, 1, 2, 6, 5);
        Check.walk("off the hills in the north and west", Check.of("kanwes"), 0, 0, 0, 0, 1, 5);
        Check.walk("off the hills in the south and east", Check.of("kpsenw"), 0, 15, 15, 15, 11, 10);
        Check.walk("no way round the row's end", Check.of("kden"), 0, 3, 3, 3);
        Check.walk("no way round the row's begin", Check.of("kew"), 0, 4, 4);
        Check.walk("lame", Check.of("lfes"), 0, 5, 5, 6, 6, 10);
        Check.walk("cross", Check.of("xfnesw"), 0, 5, 9, 8, 4, 5);
        Check.walk("crook", Check.of("cfes"), 0, 5, 6, 10, 6, 5);
        Check.walk("crook that does not come home", Check.of("cen"), 0, 4, 0, 4);
        Check.walk("crook that begins at the edge", Check.of("can"), 0, 0, 0, 4);
        Check.walk("alp", Check.of("aaes"), 0, 0, 1, 5, 1, 0, 1, 5, 1, 0);
        Check.walk("alp at the edge", Check.of("aan"), 0, 0, 0, 4, 0, 4);
        StickWays lame = Check.of("lfes");
        lame.late(0, 1);
        Check.walk("lame and late", lame, 0, 5, 5, 5, 6, 6, 10);
        StickWays crook = Check.of("cfes");
        crook.late(0, 3);
        Check.walk("crook and late", crook, 0, 5, 5, 5, 5, 6, 10, 6, 5);
        StickWays alp = Check.of("adwwwss");
        alp.late(0, 9);
        Check.due("a late alp before its last step", alp.at(0, 28), 2);
        Check.due("a late alp at its end", alp.at(0, 29), 3);
    }

    private static void promise9Meet() {
        StickWays ways = Check.of("kaee,kcww,kps");
        Check.due("meet(0, 1)", ways.meet(0, 1), 1);
        Check.due("meet(1, 0)", ways.meet(1, 0), 1);
        Check.due("meet(0, 2)", ways.meet(0, 2), 0);
        Check.due("meet at all hours", Check.of("kan,kaw").meet(0, 1), 31);
        Check.due("meet from an hour on", Check.of("kae,kbs,kcw").meet(0, 2), 30);
        Check.due("meet at the end", Check.of("kae,kcww,kfn").meet(0, 2), 30);
        ways.late(0, 2);
        Check.due("meet when late", ways.meet(0, 1), 1);
        Check.due("meet(0, 0)", ways.meet(0, 0), Check.UNKNOWN);
        Check.due("meet(0, 3)", ways.meet(0, 3), Check.UNKNOWN);
        Check.due("meet(3, 0)", ways.meet(3, 0), Check.UNKNOWN);
        for (int wrong : Check.WRONG) {
            Check.due("meet(0, " + wrong + ")", ways.meet(0, wrong), Check.UNKNOWN);
            Check.due("meet(" + wrong + ", 0)", ways.meet(wrong, 0), Check.UNKNOWN);
        }
    }
}
