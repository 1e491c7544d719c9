/** The edges that the document names for images, counts and the digest: promises 21 to 24. */
final class EdgesOfTold {
    private EdgesOfTold() {
    }

    static void check() {
        imageKeepsSticks();
        imageKeepsBegins();
        imageKeepsWays();
        imageKeepsLateness();
        imageKeepsChanges();
        imageKeepsSeen();
        imageKeepsNothingElse();
        kindsOutliveAnImage();
        image();
        imageWithoutHills();
        restore();
        restoreNoneKept();
        restoreBehindHills();
        countEmpty();
        countFull();
        countChanges();
        countPlacesAndMeetings();
        countOutside();
        digestWithoutHills();
        digestOfThePage();
        digestOfSticks();
        digestWraps();
        fiveHundredAndTwelveCalls();
    }

    // ---- terms

    private static void imageKeepsSticks() {
        Doc.says(Doc.TERMS, "An IMAGE keeps how many STICKS there are,");
        StickWays ways = Check.of("kaeee,kaeee,kan,kan");
        ways.image();
        ways.saw(0, 1);
        ways.saw(1, 1);
        ways.restore();
        Check.due("four", ways.count(0), 4);
        Check.due("the fifth is gone", ways.stick(4, 0), Check.UNKNOWN);
        Check.due("there is room for it again", ways.saw(1, 2), 4);
        ways.saw(1, 1);
        ways.image();
        ways.restore();
        Check.due("six", ways.count(0), 6);
    }

    private static void imageKeepsBegins() {
        Doc.says(Doc.TERMS, "where they BEGIN,");
        StickWays ways = Check.of("kaeee,kpn");
        ways.saw(0, 1);
        ways.image();
        ways.cut(0, 1);
        ways.restore();
        Check.due("the first", ways.stick(0, 1), 0);
        Check.due("the second", ways.stick(1, 1), 15);
        Check.due("the new one", ways.stick(2, 1), 1);
        StickWays other = Check.of("kaeee");
        other.image();
        other.saw(0, 1);
        other.restore();
        other.saw(0, 2);
        Check.due("one that is sawn behind restore()", other.stick(1, 1), 2);
    }

    private static void imageKeepsWays() {
        Doc.says(Doc.TERMS, "their WAYS,");
        StickWays ways = Check.of("kaeeess,cpw");
        ways.image();
        ways.saw(0, 3);
        ways.cut(0, 1);
        ways.restore();
        int[] steps = {1, 1, 1, 2, 2};
        for (int step = 0; step < 5; step++) {
            Check.due("step " + step, ways.stick(0, 10 + step), steps[step]);
        }
        Check.walk("the walk of five", ways, 0, 0, 1, 2, 3, 7, 11);
        Check.walk("the walk of one", ways, 1, 15, 14, 15);
    }

    private static void imageKeepsLateness() {
        Doc.says(Doc.TERMS, "how LATE they are,");
        StickWays ways = Check.of("kae,kae");
        ways.late(1, 9);
        ways.image();
        ways.late(0, 9);
        ways.late(1, 0);
        ways.restore();
        Check.due("not late", ways.stick(0, 3), 0);
        Check.due("late by 9", ways.stick(1, 3), 9);
        Check.walk("it goes at hour 10", ways, 1, 0, 0, 0, 0, 0, 0, 0, 0, 0, 0, 1);
    }

    private static void imageKeepsChanges() {
        Doc.says(Doc.TERMS, "how often anything was changed, SEEN.");
        StickWays ways = Check.of("kae");
        ways.image();
        ways.late(0, 1);
        Check.due("restore() of the unchanged", ways.restore(), 0);
        Check.due("changes", ways.count(4), 0);
        ways.late(0, 1);
        ways.late(0, 2);
        ways.image();
        ways.cut(0, 1);
        Check.due("restore() of two changes", ways.restore(), 2);
        Check.due("restore() is no change", ways.count(4), 2);
        ways.late(0, 3);
        Check.due("it goes on from there", ways.count(4), 3);
    }

    private static void imageKeepsSeen() {
        StickWays ways = Check.of("kan,kbn,kcn");
        ways.image();
        ways.see(0, 0);
        ways.restore();
        Check.due("nothing was seen", ways.count(5), 0);
        Check.due("it can be each", ways.whose(), 7);
        ways.see(0, 0);
        ways.image();
        ways.forget();
        ways.see(1, 0);
        ways.see(1, 0);
        ways.restore();
        Check.due("one was seen", ways.count(5), 1);
        Check.due("at that place", ways.whose(), 1);
        for (int seen = 2; seen <= 8; seen++) {
            ways.see(0, 30);
        }
        ways.image();
        ways.forget();
        for (int seen = 1; seen <= 8; seen++) {
            ways.see(2, 0);
        }
        ways.restore();
        Check.due("eight were seen", ways.count(5), 8);
        Check.due("each where it was", ways.whose(), 1);
        Check.due("a ninth", ways.see(0, 0), Check.FULL);
        StickWays going = Check.of("kae,kbe");
        going.see(1, 1);
        going.image();
        going.forget();
        going.see(1, 0);
        going.restore();
        Check.due("and each at its hour", going.whose(), 1);
    }

    private static void imageKeepsNothingElse() {
        StickWays ways = Check.of("kan");
        ways.letter('k');
        ways.image();
        Check.write(ways, "an,c");
        ways.restore();
        Check.due("the page is as it is", ways.count(6), 5);
        ways.blank();
        ways.restore();
        Check.due("it stays empty", ways.count(6), 0);
        Check.due("hills were read once", ways.count(7), 1);
    }

    /** An image does not keep kinds, and need not: no call changes the kind of a stick it keeps. */
    private static void kindsOutliveAnImage() {
        StickWays ways = Check.of("cbee,ldww");
        ways.image();
        ways.saw(0, 1);
        Check.due("sawn of the crook", ways.stick(2, 0), 1);
        ways.restore();
        ways.saw(1, 1);
        Check.due("sawn of the lame one", ways.stick(2, 0), 2);
        ways.image();
        ways.saw(0, 1);
        ways.restore();
        Check.due("lame as when the image was kept", ways.stick(2, 0), 2);
        Check.walk("and so it goes", ways, 2, 2, 2, 1);
    }

    // ---- promises

    private static void image() {
        Doc.says(21, "An IMAGE is kept (one; the latest): how often anything was changed.");
        StickWays ways = Check.of("kaeee");
        Check.due("image() of the unchanged", ways.image(), 0);
        ways.late(0, 1);
        Check.due("image() of one change", ways.image(), 1);
        Check.due("image() of the same", ways.image(), 1);
        ways.late(0, 2);
        Check.due("restore() of the latest", ways.restore(), 1);
        Check.due("restore() again: there is but one", ways.restore(), 1);
        Check.due("late as then", ways.stick(0, 3), 1);
        Check.due("image() is no change", ways.count(4), 1);
    }

    private static void imageWithoutHills() {
        Doc.says(21, "STATE: no HILLS.");
        StickWays ways = new StickWays();
        Check.due("image()", ways.image(), Check.STATE);
        Check.write(ways, "kan");
        Check.due("image() of a page", ways.image(), Check.STATE);
        ways.hills();
        Check.due("nothing was kept", ways.restore(), Check.STATE);
        Check.due("image() of hills", ways.image(), 0);
    }

    private static void restore() {
        Doc.says(22, "It goes on from the IMAGE: how often anything was changed.");
        StickWays ways = Check.of("kaeee,kpw");
        ways.late(1, 3);
        ways.see(15, 3);
        ways.image();
        long digest = ways.digest();
        Check.due("restore() at once", ways.restore(), 1);
        Check.due("all as it was", ways.digest(), digest);
        ways.saw(0, 2);
        ways.late(1, 0);
        ways.see(0, 0);
        Check.due("restore()", ways.restore(), 1);
        Check.due("all as it was then", ways.digest(), digest);
        ways.cut(0, 1);
        ways.forget();
        Check.due("restore() a third time", ways.restore(), 1);
        Check.due("all as it was ever since", ways.digest(), digest);
    }

    private static void restoreNoneKept() {
        Doc.says(22, "STATE: none was kept,");
        Check.due("restore() of a new object", new StickWays().restore(), Check.STATE);
        StickWays ways = Check.of("kan");
        Check.due("restore() behind hills()", ways.restore(), Check.STATE);
        ways.late(0, 1);
        Check.due("restore() behind a change", ways.restore(), Check.STATE);
        Check.due("the change stays", ways.stick(0, 3), 1);
    }

    private static void restoreBehindHills() {
        Doc.says(22, "or HILLS were read since (of the same text, too).");
        StickWays ways = Check.of("kan");
        ways.image();
        Check.write(ways, "kan");
        Check.due("restore() while the text is only written", ways.restore(), 0);
        ways.hills();
        Check.due("restore() when it is read", ways.restore(), Check.STATE);
        ways.image();
        Check.write(ways, "kq");
        ways.hills();
        Check.due("restore() when none were read", ways.restore(), 0);
        ways.blank();
        Check.write(ways, "cpn,lbs");
        ways.hills();
        Check.due("restore() when others were read", ways.restore(), Check.STATE);
        Check.due("the others stay", ways.stick(0, 0), 1);
    }

    private static void countEmpty() {
        Doc.says(23, "How many: 0 STICKS, 1 STEPS of all,");
        Doc.says(23, "5 what is SEEN, 6 letters of THE PAGE, 7 how often HILLS were read.");
        StickWays ways = new StickWays();
        for (int what = 0; what <= 7; what++) {
            Check.due("empty: count(" + what + ")", ways.count(what), 0);
        }
        StickWays least = Check.of("kan");
        int[] counts = {1, 1, 1, 0, 0, 0, 0, 1};
        for (int what = 0; what <= 7; what++) {
            Check.due("least: count(" + what + ")", least.count(what), counts[what]);
        }
    }

    private static void countFull() {
        StickWays ways = Check.of("kannnnn,cannnnn,lannnnn,xdeeeee");
        for (int seen = 0; seen < 8; seen++) {
            ways.see(0, 0);
        }
        Check.write(ways, "kannnnn,cannnnn,lannnnn,xannnnnn");
        ways.saw(0, 4);
        ways.saw(0, 3);
        // Four stay at 0 (6 pairs, 31 hours), the crook is there up to hour 5 (with each of the
        // four), the cross one from hour 3 on (with each of the four), these two at three hours.
        int[] counts = {6, 20, 7, 6 * 31 + 4 * 6 + 4 * 28 + 3, 2, 8, 32, 1};
        for (int what = 0; what <= 7; what++) {
            Check.due("full: count(" + what + ")", ways.count(what), counts[what]);
        }
        ways.blank();
        Check.write(ways, "kan");
        ways.hills();
        Check.due("hills are read a second time", ways.count(7), 2);
        ways.hills();
        Check.due("none are read a third time", ways.count(7), 2);
    }

    private static void countChanges() {
        Doc.says(23, "4 how often anything was changed (late(), cut(), saw() that were not refused, also"
            + " where it was so already),");
        StickWays ways = Check.of("kaee,kaee,kaee,kaeee");
        ways.late(0, 0);
        Check.due("late as it was", ways.count(4), 1);
        ways.cut(0, 2);
        Check.due("cut to what it had", ways.count(4), 2);
        ways.saw(1, 1);
        Check.due("sawn", ways.count(4), 3);
        ways.saw(3, 1);
        Check.due("sawn again", ways.count(4), 4);
        ways.saw(3, 1);
        ways.saw(0, 1);
        ways.late(0, 10);
        ways.late(6, 0);
        ways.cut(0, 0);
        ways.cut(0, 3);
        ways.cut(6, 1);
        ways.saw(0, 0);
        ways.saw(6, 1);
        Check.due("refused, refused and refused", ways.count(4), 4);
        ways.see(0, 0);
        ways.forget();
        ways.image();
        ways.letter('k');
        ways.blank();
        ways.mornings(20, 0, 0);
        ways.later(0, 1);
        Check.due("other calls", ways.count(4), 4);
    }

    private static void countPlacesAndMeetings() {
        Doc.says(23, "2 PLACES that are seen, 3 at how many HOURS any two MEET, added up over all pairs,");
        StickWays ways = Check.of("kan,kan,kan,kan");
        Check.due("six pairs", ways.count(3), 6 * 31);
        Check.due("one place", ways.count(2), 1);
        StickWays six = Check.of("kannn,kannn,kan,kan");
        six.saw(0, 1);
        six.saw(1, 1);
        Check.due("fifteen pairs", six.count(3), 15 * 31);
        StickWays all = Check.of("kaeee,khwww,kieee,kpwww");
        Check.due("no pair meets", all.count(3), 0);
        Check.due("all places", all.count(2), 16);
        StickWays late = Check.of("kae,kas");
        late.late(0, 9);
        Check.due("late, they meet at hour 0", late.count(3), 1);
        late.late(1, 9);
        Check.due("both late, at hours 0 to 9", late.count(3), 10);
        Check.due("both late, three places", late.count(2), 3);
        StickWays last = Check.of("adenews,afwenew");
        last.late(0, 9);
        Check.due("at hours 29 and 30", last.count(3), 2);
    }

    private static void countOutside() {
        Doc.says(23, "OUTSIDE.");
        int[] outside = {Integer.MIN_VALUE, -1, 8, 9, Integer.MAX_VALUE};
        for (int what : outside) {
            Check.due("count(" + what + ")", Check.of("kan").count(what), Check.OUTSIDE);
            Check.due("empty: count(" + what + ")", new StickWays().count(what), Check.OUTSIDE);
        }
    }

    private static void digestWithoutHills() {
        Doc.says(24, "h is 1049, then for each of these numbers, in order, 31 times h, and it (as longs, wrapping):");
        Doc.says(24, "with HILLS (all up to the next semicolon) WHOSE, LOOK, what cover() tells of PLACES 0 and 5"
            + " (bits 33) for 0 and 1;");
        Check.due("eight noughts alone", new StickWays().digest(), 1049L * 31 * 31 * 31 * 31 * 31 * 31 * 31 * 31);
        StickWays seen = new StickWays();
        seen.see(0, 0);
        long[] told = {0, 0, 0, 0, 0, 1, 0, 0};
        Check.due("without hills, one seen", seen.digest(), folded(told));
    }

    private static void digestOfThePage() {
        Doc.says(24, "letters of THE PAGE, each by its code; what count() tells for 0 to 7.");
        long[] none = {'k', 1, 126, 'a', 0, 0, 0, 0, 0, 0, 4, 0};
        StickWays ways = new StickWays();
        for (int i = 0; i < 4; i++) {
            ways.letter((int) none[i]);
        }
        Check.due("of four letters", ways.digest(), folded(none));
        ways.blank();
        long[] empty = new long[8];
        Check.due("of none again", ways.digest(), folded(empty));
        StickWays full = new StickWays();
        long[] told = new long[40];
        for (int i = 0; i < 32; i++) {
            full.letter(95 + i);
            told[i] = 95 + i;
        }
        told[38] = 32;
        Check.due("of thirty-two", full.digest(), folded(told));
    }

    private static void digestOfSticks() {
        Doc.says(24, "of each STICK what stick() tells for 0 to 6 and 10 to 14, where it is at HOURS 1, 5 and 30,"
            + " CATCH of it from PLACE 0;");
        // Of "adwwwss" late by 9: 3 up to hour 9, its end at hour 29.
        StickWays ways = Check.of("adwwwss,xkne");
        ways.late(0, 9);
        ways.see(15, 0);
        ways.letter('~');
        long[] told = {
            4, 3, 5, 9, 29, 3, 6, 3, 3, 3, 2, 2, 3, 3, 3, 3,
            3, 10, 2, 0, 2, 13, 3, 0, 1, -1, -1, -1, 14, 13, 13, 4,
            0, -1, -1, -1,
            '~',
            2, 7, 9, 0, 1, 1, 1, 1,
        };
        Check.due("of two sticks", ways.digest(), folded(told));
        // Not late, that one is at another place in each hour about 1 and 5; and places 0 and 5
        // are seen by two sticks, neither 1 nor 4 nor 6 by the same.
        long[] goesAtOnce = {
            4, 3, 5, 0, 20, 3, 6, 3, 3, 3, 2, 2, 2, 8, 3, 2,
            0, 5, 1, 0, 1, 1, 2, 0, -1, -1, -1, -1, 1, 1, 1, 1,
            3, 0, 2, 3,
            2, 6, 7, 4, 0, 0, 0, 1,
        };
        Check.due("of two that go at once", Check.of("adwwwss,kfn").digest(), folded(goesAtOnce));
    }

    private static void digestWraps() {
        StickWays ways = Check.of("kan");
        long[] told = {
            0, 0, 1, 0, 1, 0, 1, 0, -1, -1, -1, -1, 0, 0, 0, 0,
            1, 0, -1, -1,
            1, 1, 1, 0, 0, 0, 0, 1,
        };
        java.math.BigInteger hash = java.math.BigInteger.valueOf(1049);
        for (long number : told) {
            hash = hash.multiply(java.math.BigInteger.valueOf(31)).add(java.math.BigInteger.valueOf(number));
        }
        Check.due("it is beyond a long", hash.bitLength() > 64);
        Check.due("and wraps", ways.digest(), hash.longValue());
    }

    private static long folded(long[] numbers) {
        long hash = 1049;
        for (long number : numbers) {
            hash = 31 * hash + number;
        }
        return hash;
    }

    private static void fiveHundredAndTwelveCalls() {
        Doc.says(Doc.WHAT_IT_IS, "An object is used for at most 512 calls after it has been made;"
            + " what later calls answer is free.");
        StickWays ways = Check.of("kae,kbw");
        int calls = "kae,kbw".length() + 1;
        int lateBy = 0;
        while (calls < 510) {
            Check.due("call " + calls, ways.late(0, calls % 10), lateBy);
            lateBy = calls % 10;
            calls++;
        }
        Check.due("the 511th call", ways.count(4), 502);
        Check.due("the 512th call", ways.stick(0, 3), 9);
    }
}
