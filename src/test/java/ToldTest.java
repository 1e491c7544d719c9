/** Promises 21 to 24: what is told of all. */
final class ToldTest {
    public static void main(String[] args) {
        promise21And22Image();
        promise22RestoreWhatIsKept();
        promise22RestoreRefused();
        promise23Count();
        promise24Digest();
        Check.end();
    }

    private static void promise21And22Image() {
        StickWays ways = Check.of("kaees,lpnn");
        Check.due("image() of the unchanged", ways.image(), 0);
        ways.late(0, 3);
        ways.late(1, 4);
        Check.due("restore()", ways.restore(), 0);
        Check.due("not late any more", ways.stick(0, 3), 0);
        ways.late(0, 5);
        Check.due("image() of the changed", ways.image(), 1);
        Check.due("image() changes nothing", ways.count(4), 1);
        ways.late(0, 6);
        ways.late(0, 7);
        Check.due("restore() of the latest", ways.restore(), 1);
        Check.due("late as in the latest", ways.stick(0, 3), 5);
        ways.cut(0, 1);
        Check.due("restore() once more", ways.restore(), 1);
        Check.due("steps as in the image", ways.stick(0, 2), 3);
    }

    private static void promise22RestoreWhatIsKept() {
        StickWays ways = Check.of("kaees,lpnn,cfne");
        ways.late(1, 2);
        ways.see(0, 0);
        ways.see(1, 1);
        ways.image();
        long digest = ways.digest();
        ways.saw(0, 1);
        ways.saw(2, 1);
        ways.cut(1, 1);
        ways.late(1, 9);
        ways.late(0, 1);
        ways.forget();
        ways.see(5, 5);
        ways.see(5, 6);
        ways.see(5, 7);
        Check.due("restore()", ways.restore(), 1);
        Check.due("all as it was", ways.digest(), digest);
        Check.due("what was seen", ways.whose(), 1);
        Check.walk("the first stick", ways, 0, 0, 1, 2, 6);
        Check.due("a stick sawn later is gone", ways.stick(3, 0), Check.UNKNOWN);
        ways.saw(2, 1);
        Check.due("one sawn then has its own kind", ways.stick(3, 0), 1);
        ways.letter('k');
        ways.restore();
        Check.due("the page is not of the image", ways.count(6), 1);
    }

    private static void promise22RestoreRefused() {
        StickWays ways = Check.of("kan");
        long[] before = Check.told(ways);
        Check.due("restore() without an image", ways.restore(), Check.STATE);
        Check.unchanged("restore() refused", ways, before);
        ways.image();
        Check.write(ways, "kan");
        ways.hills();
        Check.due("restore() of the same text read again", ways.restore(), Check.STATE);
        ways.image();
        Check.due("restore() of a new image", ways.restore(), 0);
        StickWays none = new StickWays();
        Check.due("image() without hills", none.image(), Check.STATE);
        Check.due("restore() behind a refused image()", none.restore(), Check.STATE);
    }

    private static void promise23Count() {
        StickWays ways = Check.of("kae,kbw,kbs");
        int[] fresh = {3, 3, 3, 1, 0, 0, 0, 1};
        counts("fresh", ways, fresh);
        ways.late(1, 1);
        ways.late(1, 1);
        ways.late(1, 10);
        ways.cut(0, 1);
        ways.cut(0, 2);
        ways.see(0, 0);
        ways.letter('k');
        int[] changed = {3, 3, 3, 2, 3, 1, 1, 1};
        counts("changed", ways, changed);
        Check.due("count(8)", ways.count(8), Check.OUTSIDE);
        for (int wrong : Check.WRONG) {
            Check.due("count(" + wrong + ")", ways.count(wrong), Check.OUTSIDE);
        }
    }

    private static void counts(String when, StickWays ways, int[] want) {
        for (int what = 0; what < want.length; what++) {
            Check.due(when + ": count(" + what + ")", ways.count(what), want[what]);
        }
    }

    private static void promise24Digest() {
        long empty = 1049;
        for (int what = 0; what < 8; what++) {
            empty *= 31;
        }
        Check.due("digest() of a new object", new StickWays().digest(), empty);
        StickWays letters = Check.page("k~");
        long[] onPage = {'k', '~', 0, 0, 0, 0, 0, 0, 2, 0};
        Check.due("digest() of a page", letters.digest(), folded(onPage));
        StickWays ways = Check.of("lbs,kdw");
        ways.late(0, 1);
        ways.see(1, 0);
        ways.letter('c');
        long[] all = {
            2, 1, 1, 1, 3, 5, 2, 2, -1, -1, -1, -1, 1, 5, 5, 1,
            0, 3, 1, 0, 1, 2, 2, 3, -1, -1, -1, -1, 2, 2, 2, 2,
            1, 0, -1, -1,
            'c',
            2, 2, 4, 0, 1, 1, 1, 1,
        };
        Check.due("digest() of hills", ways.digest(), folded(all));
        Check.due("digest() changes nothing", ways.digest(), folded(all));
        digestOfFartherWays();
    }

    /** Each hour near 1 and 5 has another place, and each of places 0 and 5 another stick. */
    private static void digestOfFartherWays() {
        long[] all = {
            4, 3, 5, 0, 20, 3, 6, 3, 3, 3, 2, 2, 2, 8, 3, 2,
            0, 5, 1, 0, 1, 1, 2, 0, -1, -1, -1, -1, 1, 1, 1, 1,
            3, 0, 2, 3,
            2, 6, 7, 4, 0, 0, 0, 1,
        };
        Check.due("digest() of farther ways", Check.of("adwwwss,kfn").digest(), folded(all));
    }

    private static long folded(long[] numbers) {
        long hash = 1049;
        for (long number : numbers) {
            hash = 31 * hash + number;
        }
        return hash;
    }
}
