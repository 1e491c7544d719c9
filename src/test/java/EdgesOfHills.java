/** The edges that the document names for the hills, their text and the mornings: promises 1 to 9. */
final class EdgesOfHills {
    private static final String PLACE_LETTERS = "abcdefghijklmnop";
    private static final String FULL_TEXT = "kannnnn,cannnnn,lannnnn,xannnnn";

    private EdgesOfHills() {
    }

    static void check() {
        placesAndDirections();
        stepOffTheHills();
        atFirstThereAreNone();
        oneToFourSticks();
        commaBetween();
        oneToFiveSteps();
        kindLetters();
        beginLetters();
        stepLetters();
        kindsAreTaken();
        atHourZero();
        eachStepAnHour();
        lameInEachSecondHour();
        crossTheOtherWayAbout();
        crookBack();
        alpTwice();
        staysBehindTheLast();
        lateByZeroToNine();
        hoursZeroToThirty();
        meetAtAnHour();
        newObject();
        letterRange();
        letterFull();
        blankEmptyAndFull();
        faultPlaces();
        faultNone();
        hillsReplaceAll();
        hillsRefused();
        stickWhats();
        stickSteps();
        stickEnds();
        stickPlaces();
        asEdges();
        atEdges();
        meetEdges();
    }

    // ---- terms

    private static void placesAndDirections() {
        Doc.says(Doc.TERMS, "HILLS have 16 PLACES, four rows of four: PLACE 4 times the row and the"
            + " column; NORTH is the row above, EAST the next column.");
        int[][] next = {
            {0, 1, 2, 3, 0, 1, 2, 3, 4, 5, 6, 7, 8, 9, 10, 11},
            {1, 2, 3, 3, 5, 6, 7, 7, 9, 10, 11, 11, 13, 14, 15, 15},
            {4, 5, 6, 7, 8, 9, 10, 11, 12, 13, 14, 15, 12, 13, 14, 15},
            {0, 0, 1, 2, 4, 4, 5, 6, 8, 8, 9, 10, 12, 12, 13, 14},
        };
        for (int direction = 0; direction < 4; direction++) {
            for (int place = 0; place < 16; place++) {
                String text = "k" + PLACE_LETTERS.charAt(place) + "nesw".charAt(direction);
                Check.due("behind the step of " + text, Check.of(text).at(0, 1), next[direction][place]);
            }
        }
    }

    private static void stepOffTheHills() {
        Doc.says(Doc.TERMS, "A STEP that would lead off the HILLS leads nowhere.");
        Check.walk("off in the north", Check.of("kcnns"), 0, 2, 2, 2, 6);
        Check.walk("off in the east", Check.of("kheew"), 0, 7, 7, 7, 6);
        Check.walk("off in the south", Check.of("knssn"), 0, 13, 13, 13, 9);
        Check.walk("off in the west", Check.of("kewwe"), 0, 4, 4, 4, 5);
        Check.walk("a lame one takes its two hours", Check.of("ldes"), 0, 3, 3, 3, 3, 7);
        Check.walk("a cross one goes off the other way", Check.of("xpnw"), 0, 15, 15, 15);
        Check.walk("a crook goes off on its way back", Check.of("caes"), 0, 0, 1, 5, 1, 0);
        Check.walk("a crook that goes off only going back", Check.of("cmwe"), 0, 12, 12, 13, 12, 13);
    }

    private static void atFirstThereAreNone() {
        Doc.says(Doc.TERMS, "At first there are none.");
        Check.due("sticks at first", new StickWays().count(0), 0);
        Check.due("stick(0, 0) at first", new StickWays().stick(0, 0), Check.UNKNOWN);
    }

    private static void oneToFourSticks() {
        Doc.says(Doc.TERMS, "They are a text: one to four STICKS (numbered from 0) with");
        String[] texts = {"", "kbn", "kbn,kcn", "kbn,kcn,kdn", "kbn,kcn,kdn,ken"};
        Check.due("hills() of no stick", Check.page(texts[0]).hills(), Check.STATE);
        for (int sticks = 1; sticks <= 4; sticks++) {
            StickWays ways = Check.page(texts[sticks]);
            Check.due("hills() of " + texts[sticks], ways.hills(), sticks);
            for (int stick = 0; stick < sticks; stick++) {
                Check.due("stick " + stick + " of " + texts[sticks], ways.stick(stick, 1), stick + 1);
            }
            Check.due("behind the last of " + texts[sticks], ways.stick(sticks, 1), Check.UNKNOWN);
            Check.due("ahead of the first of " + texts[sticks], ways.stick(-1, 1), Check.UNKNOWN);
        }
        StickWays five = Check.page("kbn,kcn,kdn,ken,kfn");
        Check.due("fault() of five sticks", five.fault(), 15);
        Check.due("hills() of five sticks", five.hills(), Check.STATE);
    }

    private static void commaBetween() {
        Doc.says(Doc.TERMS, "with \",\" between, each a letter, the KIND,");
        isNoHills(",", 0);
        isNoHills(",kan", 0);
        isNoHills("k,", 1);
        isNoHills("ka,", 2);
        isNoHills("kan,", 4);
        isNoHills("kan,,kan", 4);
        isNoHills("kan kan", 3);
        isNoHills("kan;kan", 3);
        isNoHills("kan-kan", 3);
        isNoHills("kankan", 3);
        isNoHills("kan,kan,kan,kan,", 15);
        Check.due("a comma between", Check.page("kan,kan").hills(), 2);
    }

    private static void isNoHills(String text, int fault) {
        StickWays ways = Check.page(text);
        Check.due("fault() of " + text, ways.fault(), fault);
        Check.due("hills() of " + text, ways.hills(), Check.STATE);
    }

    private static void oneToFiveSteps() {
        Doc.says(Doc.TERMS, "and one to five STEPS, its WAY: 0 NORTH \"n\", 1 EAST \"e\", 2 SOUTH \"s\","
            + " 3 WEST \"w\".");
        isNoHills("k", 1);
        isNoHills("ka", 2);
        isNoHills("kaneswne", 7);
        isNoHills("kan,ka", 6);
        isNoHills("kan,ka,kan", 6);
        isNoHills("kan,kaneswne", 11);
        String way = "neswn";
        int[] directions = {0, 1, 2, 3, 0};
        for (int steps = 1; steps <= 5; steps++) {
            StickWays ways = Check.of("ka" + way.substring(0, steps) + ",kbw");
            Check.due("steps of " + steps, ways.stick(0, 2), steps);
            for (int step = 0; step < steps; step++) {
                Check.due("step " + step + " of " + steps, ways.stick(0, 10 + step), directions[step]);
            }
        }
    }

    private static void kindLetters() {
        Doc.says(Doc.TERMS, "KINDS are told by the letter: 0 STICK \"k\", 1 CROOK \"c\", 2 LAME \"l\","
            + " 3 CROSS \"x\", 4 ALP \"a\".");
        for (String ahead : new String[] {"", "kan,", "kan,kaneswn,kan,"}) {
            lettersThatFit(ahead, "kclxa");
        }
        for (int kind = 0; kind < 5; kind++) {
            String text = "kclxa".charAt(kind) + "an";
            Check.due("kind of " + text, Check.of(text).stick(0, 0), kind);
        }
    }

    private static void beginLetters() {
        Doc.says(Doc.TERMS, "a letter \"a\" to \"p\", where it BEGINS (PLACE 0 to 15),");
        for (String ahead : new String[] {"k", "kan,c", "kan,kan,kan,a"}) {
            lettersThatFit(ahead, PLACE_LETTERS);
        }
        for (int place = 0; place < 16; place++) {
            String text = "k" + PLACE_LETTERS.charAt(place) + "n";
            Check.due("begin of " + text, Check.of(text).stick(0, 1), place);
        }
    }

    private static void stepLetters() {
        lettersThatFit("ka", "nesw");
        lettersThatFit("kan", "nesw,");
        lettersThatFit("kanesw", "nesw,");
        lettersThatFit("kaneswn", ",");
        lettersThatFit("kan,kan,ka", "nesw");
        lettersThatFit("kan,kan,kaneswn", ",");
        lettersThatFit("kan,kan,kan,ka", "nesw");
        lettersThatFit("kan,kan,kan,kan", "nesw");
        lettersThatFit("kan,kan,kan,kanesw", "nesw");
        lettersThatFit("kan,kan,kan,kaneswn", "");
    }

    /** Each code is put behind the letters: only these may be there. */
    private static void lettersThatFit(String ahead, String fitting) {
        for (int code = 1; code <= 126; code++) {
            StickWays ways = Check.page(ahead);
            ways.letter(code);
            boolean fits = fitting.indexOf(code) >= 0;
            int want = fits ? ahead.length() + 1 : ahead.length();
            Check.due("fault() with code " + code + " behind \"" + ahead + "\"", ways.fault(), want);
        }
    }

    private static void kindsAreTaken() {
        Doc.says(Doc.TERMS, "All are STICKS; an ALP is a CROOK, too.");
        StickWays ways = Check.of("can,lan,xan,aan");
        for (int stick = 0; stick < 4; stick++) {
            Check.due("all are sticks: as(" + stick + ", 0)", ways.as(stick, 0), stick);
        }
        Check.due("an alp is a crook", ways.as(3, 1), 3);
        Check.due("a crook is no alp", ways.as(0, 4), Check.NONE);
        Check.due("a plain stick is no other kind: crook", Check.of("kan").as(0, 1), Check.NONE);
        Check.due("a plain stick is no other kind: alp", Check.of("kan").as(0, 4), Check.NONE);
        Check.due("an alp is not lame", ways.as(3, 2), Check.NONE);
        Check.due("an alp is not cross", ways.as(3, 3), Check.NONE);
    }

    private static void atHourZero() {
        Doc.says(Doc.TERMS, "On a MORNING a STICK is at HOUR 0 where it BEGINS;");
        for (char kind : "kclxa".toCharArray()) {
            for (int late = 0; late <= 9; late++) {
                StickWays ways = Check.of(kind + "feeee");
                ways.late(0, late);
                Check.due(kind + " late by " + late + " at hour 0", ways.at(0, 0), 5);
            }
        }
    }

    private static void eachStepAnHour() {
        Doc.says(Doc.TERMS, "then it makes a STEP of its WAY in each HOUR:");
        Check.walk("five steps in five hours", Check.of("kmnenen"), 0, 12, 8, 9, 5, 6, 2);
        Check.walk("one step in one hour", Check.of("kmn"), 0, 12, 8);
    }

    private static void lameInEachSecondHour() {
        Doc.says(Doc.TERMS, "a LAME one in each second HOUR (in HOURS 2, 4, ..);");
        Check.walk("five lame steps in ten hours", Check.of("lmnenen"), 0, 12, 12, 8, 8, 9, 9, 5, 5, 6, 6, 2);
        Check.walk("one lame step in two hours", Check.of("lmn"), 0, 12, 12, 8);
    }

    private static void crossTheOtherWayAbout() {
        Doc.says(Doc.TERMS, "a CROSS one each the other way about (SOUTH for NORTH, WEST for EAST, and so on);");
        Check.walk("south for north", Check.of("xfn"), 0, 5, 9);
        Check.walk("west for east", Check.of("xfe"), 0, 5, 4);
        Check.walk("north for south", Check.of("xfs"), 0, 5, 1);
        Check.walk("east for west", Check.of("xfw"), 0, 5, 6);
        Check.walk("each of five, in their order", Check.of("xfwwnnn"), 0, 5, 6, 7, 11, 15, 15);
    }

    private static void crookBack() {
        Doc.says(Doc.TERMS, "behind the last one a CROOK goes all of its STEPS back, the last one first,"
            + " each the other way about;");
        Check.walk("one step and back", Check.of("cfe"), 0, 5, 6, 5);
        Check.walk("the last one first", Check.of("cfen"), 0, 5, 6, 2, 6, 5);
        Check.walk("five steps and back", Check.of("cmnenen"), 0, 12, 8, 9, 5, 6, 2, 6, 5, 9, 8, 12);
        Check.walk("also those that led nowhere", Check.of("cdew"), 0, 3, 3, 2, 3, 2);
    }

    private static void alpTwice() {
        Doc.says(Doc.TERMS, "an ALP does all that twice.");
        Check.walk("one step and back, twice", Check.of("afe"), 0, 5, 6, 5, 6, 5);
        Check.walk("five steps and back, twice", Check.of("amnenen"), 0,
            12, 8, 9, 5, 6, 2, 6, 5, 9, 8, 12, 8, 9, 5, 6, 2, 6, 5, 9, 8, 12);
        Check.walk("the second time from where it came to", Check.of("adew"), 0, 3, 3, 2, 3, 2, 3, 2, 3, 2);
        Check.walk("five steps, some of which lead nowhere", Check.of("abwwnee"), 0,
            1, 0, 0, 0, 1, 2, 1, 0, 4, 5, 6, 5, 4, 0, 1, 2, 1, 0, 4, 5, 6);
    }

    private static void staysBehindTheLast() {
        Doc.says(Doc.TERMS, "Behind its last one it stays there.");
        String[] texts = {"kae", "cae", "lae", "xbe", "aae"};
        int[] ends = {1, 0, 1, 0, 0};
        int[] hours = {1, 2, 2, 1, 4};
        for (int i = 0; i < texts.length; i++) {
            StickWays ways = Check.of(texts[i]);
            for (int hour = hours[i]; hour <= 30; hour++) {
                Check.due(texts[i] + " stays: at(0, " + hour + ")", ways.at(0, hour), ends[i]);
            }
        }
    }

    private static void lateByZeroToNine() {
        Doc.says(Doc.TERMS, "A STICK that is LATE by so many HOURS (0 to 9) stays where it BEGINS for as many;"
            + " HOURS of its STEPS are counted from then on (a LAME one LATE by 1 goes in HOURS 3, 5, ..).");
        StickWays lame = Check.of("laes");
        lame.late(0, 1);
        Check.walk("a lame one late by 1", lame, 0, 0, 0, 0, 1, 1, 5);
        lame.late(0, 2);
        Check.walk("a lame one late by 2", lame, 0, 0, 0, 0, 0, 1, 1, 5);
        int[] walked = {0, 1, 2, 3, 7};
        StickWays plain = Check.of("kaeees");
        for (int late = 0; late <= 9; late++) {
            int[] places = new int[late + walked.length];
            System.arraycopy(walked, 0, places, late, walked.length);
            plain.late(0, late);
            Check.walk("late by " + late, plain, 0, places);
        }
        Check.due("late by 10", plain.late(0, 10), Check.OUTSIDE);
        Check.due("late by -1", plain.late(0, -1), Check.OUTSIDE);
    }

    private static void hoursZeroToThirty() {
        Doc.says(Doc.TERMS, "HOURS are 0 to 30.");
        StickWays ways = Check.of("kae");
        Check.due("hour -1", ways.at(0, -1), Check.OUTSIDE);
        Check.due("hour 0", ways.at(0, 0), 0);
        Check.due("hour 30", ways.at(0, 30), 1);
        Check.due("hour 31", ways.at(0, 31), Check.OUTSIDE);
        StickWays longest = Check.of("adwwwss");
        longest.late(0, 9);
        Check.due("the longest walk, ahead of its last step", longest.at(0, 28), 2);
        Check.due("the longest walk, behind its last step", longest.at(0, 29), 3);
        Check.due("the longest walk, at the last hour", longest.at(0, 30), 3);
    }

    private static void meetAtAnHour() {
        Doc.says(Doc.TERMS, "Two MEET at an HOUR at which both are at one PLACE.");
        Check.due("at no hour", Check.of("kan,kps").meet(0, 1), 0);
        Check.due("changing places is not meeting", Check.of("kae,kbw").meet(0, 1), 0);
        Check.due("at hour 0 alone", Check.of("kae,kas").meet(0, 1), 1);
        Check.due("at hours 0 and 30 and all between", Check.of("kan,kan").meet(0, 1), 31);
        Check.due("from hour 1 to 30", Check.of("kae,kcw").meet(0, 1), 30);
        StickWays late = Check.of("adwwwss,kdn,adenews,afwenew");
        late.late(0, 9);
        Check.due("at hours 0 to 9, 19, 29 and 30", late.meet(0, 1), 13);
        late.late(2, 9);
        Check.due("at hours 29 and 30 alone", late.meet(2, 3), 2);
    }

    // ---- promises 1 to 5

    private static void newObject() {
        Doc.says(1, "No HILLS.");
        StickWays ways = new StickWays();
        Check.due("new: whose()", ways.whose(), Check.STATE);
        Check.due("new: look()", ways.look(), Check.STATE);
        Check.due("new: cover(0, 0)", ways.cover(0, 0), Check.STATE);
        Check.due("new: mornings(1, 0, 2)", ways.mornings(1, 0, 2), Check.STATE);
        Check.due("new: image()", ways.image(), Check.STATE);
        Check.due("new: restore()", ways.restore(), Check.STATE);
        Check.due("new: hills()", ways.hills(), Check.STATE);
        Check.due("new: fault()", ways.fault(), 0);
        Check.due("new: blank()", ways.blank(), 0);
        Check.due("new: forget()", ways.forget(), 0);
        Check.due("new: as(0, 0)", ways.as(0, 0), Check.UNKNOWN);
        Check.due("new: at(0, 0)", ways.at(0, 0), Check.UNKNOWN);
        Check.due("new: meet(0, 1)", ways.meet(0, 1), Check.UNKNOWN);
        Check.due("new: late(0, 0)", ways.late(0, 0), Check.UNKNOWN);
        Check.due("new: cut(0, 1)", ways.cut(0, 1), Check.UNKNOWN);
        Check.due("new: saw(0, 1)", ways.saw(0, 1), Check.UNKNOWN);
        Check.due("new: later(0, 1)", ways.later(0, 1), Check.UNKNOWN);
        Check.due("new: catches(0, 0)", ways.catches(0, 0), Check.UNKNOWN);
        for (int what = 0; what < 8; what++) {
            Check.due("new: count(" + what + ")", ways.count(what), 0);
        }
    }

    private static void letterRange() {
        Doc.says(2, "A letter comes behind THE PAGE, by its code: how many THE PAGE has. OUTSIDE: code (1 to 126);");
        StickWays ways = new StickWays();
        Check.due("letter(least)", ways.letter(Integer.MIN_VALUE), Check.OUTSIDE);
        Check.due("letter(-1)", ways.letter(-1), Check.OUTSIDE);
        Check.due("letter(0)", ways.letter(0), Check.OUTSIDE);
        Check.due("letter(127)", ways.letter(127), Check.OUTSIDE);
        Check.due("letter(128)", ways.letter(128), Check.OUTSIDE);
        // These would be letters if they were cut to 8 or 16 bits.
        Check.due("letter(256 + 'k')", ways.letter(256 + 'k'), Check.OUTSIDE);
        Check.due("letter(65536 + 'k')", ways.letter(65536 + 'k'), Check.OUTSIDE);
        Check.due("letter(most)", ways.letter(Integer.MAX_VALUE), Check.OUTSIDE);
        Check.due("nothing came on the page", ways.count(6), 0);
        Check.due("letter(1)", ways.letter(1), 1);
        Check.due("letter(126)", ways.letter(126), 2);
        Check.due("both are on the page", ways.count(6), 2);
        Check.due("by their codes", ways.digest(), digestOfPage(1, 126));
    }

    private static long digestOfPage(int... codes) {
        long hash = 1049;
        for (int code : codes) {
            hash = 31 * hash + code;
        }
        for (int what = 0; what < 8; what++) {
            hash = 31 * hash + (what == 6 ? codes.length : 0);
        }
        return hash;
    }

    private static void letterFull() {
        Doc.says(2, "FULL: above 32.");
        StickWays ways = new StickWays();
        for (int length = 1; length <= 32; length++) {
            Check.due("letter " + length, ways.letter(length), length);
        }
        Check.due("letter 33", ways.letter('k'), Check.FULL);
        Check.due("letter 33 again", ways.letter('k'), Check.FULL);
        Check.due("the page has 32", ways.count(6), 32);
        ways.blank();
        Check.due("a letter when it is empty again", ways.letter('k'), 1);
    }

    private static void blankEmptyAndFull() {
        Doc.says(3, "THE PAGE is empty: how many letters it had.");
        StickWays ways = new StickWays();
        Check.due("blank() of none", ways.blank(), 0);
        ways.letter('x');
        Check.due("blank() of one", ways.blank(), 1);
        Check.due("letters then", ways.count(6), 0);
        Check.write(ways, FULL_TEXT + "n");
        Check.due("blank() of a full page", ways.blank(), 32);
        Check.due("letters then", ways.count(6), 0);
        Check.due("no letter has a fault", ways.fault(), 0);
        Check.write(ways, "kan");
        Check.due("what is written then is read alone", ways.hills(), 1);
        ways.blank();
        Check.due("blank() leaves the hills", ways.count(0), 1);
    }

    private static void faultPlaces() {
        Doc.says(4, "The place (from 0) of the first letter of THE PAGE that no HILLS have there,"
            + " behind those ahead of it;");
        isNoHills("n", 0);
        isNoHills("zzz", 0);
        isNoHills("kzz", 1);
        isNoHills("kaz,z", 2);
        isNoHills("kanz", 3);
        isNoHills("kaneswnz", 7);
        isNoHills("kan,z", 4);
        isNoHills("kan,kan,kan,kan,kan", 15);
        isNoHills(FULL_TEXT + "n", 31);
        isNoHills(FULL_TEXT + ",", 31);
        isNoHills("zannnnn,cannnnn,lannnnn,xannnnnn", 0);
        StickWays ways = Check.page("kaz");
        Check.due("fault()", ways.fault(), 2);
        Check.due("the page stays", ways.count(6), 3);
    }

    private static void faultNone() {
        Doc.says(4, "how many letters it has, if there is none.");
        String[] texts = {"", "k", "ka", "kan", "kan,", "kan,c", FULL_TEXT, FULL_TEXT.substring(0, 30)};
        for (String text : texts) {
            Check.due("fault() of " + text, Check.page(text).fault(), text.length());
        }
    }

    private static void hillsReplaceAll() {
        Doc.says(5, "THE PAGE is read as THE HILLS (others are gone, with all that was): how many STICKS;"
            + " THE PAGE is empty then.");
        StickWays ways = Check.of("kaneswn,cfneswn,lkneswn,xpneswn");
        ways.saw(0, 1);
        ways.saw(1, 1);
        for (int stick = 0; stick < 6; stick++) {
            ways.late(stick, 9);
        }
        for (int seen = 0; seen < 8; seen++) {
            ways.see(15, 30);
        }
        ways.image();
        Check.write(ways, "kaw,kbs");
        Check.due("hills()", ways.hills(), 2);
        // "kaw" stays at 0 and "kbs" goes from 1 to 5: they never meet.
        int[] counts = {2, 2, 3, 0, 0, 0, 0, 2};
        for (int what = 0; what < 8; what++) {
            Check.due("behind hills(): count(" + what + ")", ways.count(what), counts[what]);
        }
        Check.due("the third stick is gone", ways.stick(2, 0), Check.UNKNOWN);
        Check.due("the sixth stick is gone", ways.stick(5, 0), Check.UNKNOWN);
        Check.due("lateness is gone", ways.stick(0, 3) + ways.stick(1, 3), 0);
        Check.due("later steps are gone", ways.stick(0, 11), Check.NONE);
        Check.due("what was seen is gone", ways.whose(), 3);
        Check.due("the image is gone", ways.restore(), Check.STATE);
        ways.saw(0, 1);
        Check.write(ways, FULL_TEXT);
        Check.due("hills() of as many as there can be", ways.hills(), 4);
        Check.due("the page is empty then", ways.count(6), 0);
    }

    private static void hillsRefused() {
        Doc.says(5, "STATE: they are none.");
        StickWays ways = Check.of("kae,kbw");
        ways.late(1, 4);
        ways.image();
        for (String text : new String[] {"", "k", "ka", "kan,", "kanx", FULL_TEXT + "n"}) {
            ways.blank();
            Check.write(ways, text);
            Check.due("hills() of " + text, ways.hills(), Check.STATE);
            Check.due("the page stays", ways.count(6), text.length());
            Check.due("the hills stay", ways.count(0), 2);
            Check.due("they were read once", ways.count(7), 1);
        }
        Check.due("the image stays", ways.restore(), 1);
        ways.blank();
        Check.write(ways, "kan");
        ways.letter('k');
        Check.due("four letters are none", ways.hills(), Check.STATE);
        ways.blank();
        Check.write(ways, "kan");
        Check.due("three are", ways.hills(), 1);
    }

    // ---- promises 6 to 9

    private static void stickWhats() {
        Doc.says(6, "Of a STICK: what = 0 KIND, 1 where it BEGINS, 2 how many STEPS its WAY has,"
            + " 3 how LATE it is,");
        Doc.says(6, "UNKNOWN; OUTSIDE.");
        StickWays ways = Check.of("aps,kanesw");
        ways.late(0, 9);
        int[] want = {4, 15, 1, 9};
        for (int what = 0; what < want.length; what++) {
            Check.due("stick(0, " + what + ")", ways.stick(0, what), want[what]);
        }
        int[] least = {0, 0, 4, 0};
        for (int what = 0; what < least.length; what++) {
            Check.due("stick(1, " + what + ")", ways.stick(1, what), least[what]);
        }
        Check.due("stick(0, -1)", ways.stick(0, -1), Check.OUTSIDE);
        Check.due("stick(0, 6)", ways.stick(0, 6), 2);
        Check.due("stick(0, 7)", ways.stick(0, 7), Check.OUTSIDE);
        Check.due("stick(0, 8)", ways.stick(0, 8), Check.OUTSIDE);
        Check.due("stick(0, 9)", ways.stick(0, 9), Check.OUTSIDE);
        Check.due("stick(0, 10)", ways.stick(0, 10), 2);
        Check.due("stick(0, 14)", ways.stick(0, 14), Check.NONE);
        Check.due("stick(0, 15)", ways.stick(0, 15), Check.OUTSIDE);
        Check.due("stick(2, 0)", ways.stick(2, 0), Check.UNKNOWN);
        Check.due("stick(-1, 0)", ways.stick(-1, 0), Check.UNKNOWN);
        Check.due("stick(2, 15)", ways.stick(2, 15), Check.UNKNOWN);
    }

    private static void stickSteps() {
        Doc.says(6, "10 to 14 the so-manieth STEP (NONE: there is none).");
        StickWays ways = Check.of("xawsenw");
        int[] steps = {3, 2, 1, 0, 3};
        for (int left = 5; left >= 1; left--) {
            ways.cut(0, left);
            for (int step = 0; step < 5; step++) {
                int want = step < left ? steps[step] : Check.NONE;
                Check.due("of " + left + ": stick(0, " + (10 + step) + ")", ways.stick(0, 10 + step), want);
            }
        }
    }

    private static void stickEnds() {
        Doc.says(6, "4 at which HOUR it is at its end (from then on it stays; above 30, too), 5 where that is,");
        String kinds = "kclxa";
        int[] ofOne = {1, 2, 2, 1, 4};
        int[] ofFive = {5, 10, 10, 5, 20};
        int[] where = {2, 12, 2, 12, 12};
        for (int kind = 0; kind < 5; kind++) {
            StickWays ways = Check.of(kinds.charAt(kind) + "mn");
            Check.due("end of one step, kind " + kind, ways.stick(0, 4), ofOne[kind]);
            ways.late(0, 9);
            Check.due("the same late by 9", ways.stick(0, 4), 9 + ofOne[kind]);
            ways = Check.of(kinds.charAt(kind) + "mnenen");
            Check.due("end of five steps, kind " + kind, ways.stick(0, 4), ofFive[kind]);
            ways.late(0, 9);
            Check.due("the same late by 9", ways.stick(0, 4), 9 + ofFive[kind]);
        }
        for (int kind = 0; kind < 5; kind++) {
            Check.due("where, kind " + kind, Check.of(kinds.charAt(kind) + "mnenen").stick(0, 5), where[kind]);
        }
        Check.due("where an alp ends, off its begin", Check.of("abwwnee").stick(0, 5), 6);
        StickWays nowhere = Check.of("kan");
        Check.due("also if the last step leads nowhere", nowhere.stick(0, 4), 1);
        Check.due("there it is where it was", nowhere.stick(0, 5), 0);
    }

    private static void stickPlaces() {
        Doc.says(6, "6 at how many PLACES it is,");
        Check.due("at one", Check.of("kannnnn").stick(0, 6), 1);
        Check.due("at two", Check.of("kae").stick(0, 6), 2);
        Check.due("at six", Check.of("kaeeess").stick(0, 6), 6);
        Check.due("each once, though it comes back", Check.of("caeeess").stick(0, 6), 6);
        Check.due("more on the way back", Check.of("abwwnee").stick(0, 6), 6);
        StickWays late = Check.of("apwwwsw");
        late.late(0, 9);
        Check.due("the second time at places where it was not before", late.stick(0, 6), 8);
        late.cut(0, 1);
        Check.due("cut, at fewer", late.stick(0, 6), 2);
    }

    private static void asEdges() {
        Doc.says(7, "A STICK taken as a KIND: its own number, not that of the KIND; NONE: it is none such"
            + " (the cast fails). UNKNOWN; OUTSIDE.");
        StickWays ways = Check.of("kan,lan,xan,aan");
        Check.due("as(3, 0)", ways.as(3, 0), 3);
        Check.due("as(3, 4)", ways.as(3, 4), 3);
        Check.due("as(1, 2)", ways.as(1, 2), 1);
        Check.due("as(1, 3)", ways.as(1, 3), Check.NONE);
        Check.due("as(0, 4)", ways.as(0, 4), Check.NONE);
        Check.due("as(0, 5)", ways.as(0, 5), Check.OUTSIDE);
        Check.due("as(0, -1)", ways.as(0, -1), Check.OUTSIDE);
        Check.due("as(4, 0)", ways.as(4, 0), Check.UNKNOWN);
        Check.due("as(-1, 0)", ways.as(-1, 0), Check.UNKNOWN);
        Check.due("as(4, 5)", ways.as(4, 5), Check.UNKNOWN);
    }

    private static void atEdges() {
        Doc.says(8, "Where a STICK is at an HOUR. UNKNOWN; OUTSIDE: hour (0 to 30).");
        StickWays ways = Check.of("kpw,kae");
        Check.due("at(1, 0)", ways.at(1, 0), 0);
        Check.due("at(1, 30)", ways.at(1, 30), 1);
        Check.due("at(1, -1)", ways.at(1, -1), Check.OUTSIDE);
        Check.due("at(1, 31)", ways.at(1, 31), Check.OUTSIDE);
        Check.due("at(2, 0)", ways.at(2, 0), Check.UNKNOWN);
        Check.due("at(-1, 30)", ways.at(-1, 30), Check.UNKNOWN);
        Check.due("at(2, 31)", ways.at(2, 31), Check.UNKNOWN);
    }

    private static void meetEdges() {
        Doc.says(9, "At how many HOURS two MEET. UNKNOWN: a, b, or they are the same.");
        StickWays ways = Check.of("kae,kan");
        Check.due("meet(0, 1)", ways.meet(0, 1), 1);
        Check.due("meet(1, 0)", ways.meet(1, 0), 1);
        Check.due("meet(0, 0)", ways.meet(0, 0), Check.UNKNOWN);
        Check.due("meet(1, 1)", ways.meet(1, 1), Check.UNKNOWN);
        Check.due("meet(0, 2)", ways.meet(0, 2), Check.UNKNOWN);
        Check.due("meet(2, 0)", ways.meet(2, 0), Check.UNKNOWN);
        Check.due("meet(-1, 0)", ways.meet(-1, 0), Check.UNKNOWN);
        Check.due("meet(0, -1)", ways.meet(0, -1), Check.UNKNOWN);
        Check.due("meet(2, 2)", ways.meet(2, 2), Check.UNKNOWN);
    }
}
