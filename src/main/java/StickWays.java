/**
 * Hills in which every walking stick has its own way: where the sticks are at each hour of a
 * morning, whom they meet, and what follows when they are cut, sawn or begun later.
 * The promises that the public methods keep stand in ../shared/DOC.md.
 */
public final class StickWays {
    public static final int NONE = -1, UNKNOWN = -101, OUTSIDE = -102, STATE = -103, FULL = -104;

    private static final int SIDE = 4;
    private static final int PLACES = 16;
    private static final int LAST_HOUR = 30;
    private static final int MOST_LATE = 9;
    private static final int MOST_STEPS = 5;
    private static final int MOST_STICKS_READ = 4;
    private static final int MOST_STICKS = 6;
    private static final int MOST_SEEN = 8;
    private static final int MOST_LETTERS = 32;
    private static final int MOST_CODE = 126;
    private static final int MOST_MORNINGS = 20;
    private static final int DRAW_OF = 4;
    private static final int FIRST_STEP_TOLD = 10;
    private static final int COUNTS = 8;

    /** A letter stands at the number that it means. */
    private static final String KIND_LETTERS = "kclxa";
    private static final String STEP_LETTERS = "nesw";
    private static final char FIRST_PLACE_LETTER = 'a';
    private static final char BETWEEN = ',';

    private static final int PLAIN = 0;
    private static final int CROOK = 1;
    private static final int LAME = 2;
    private static final int CROSS = 3;
    private static final int ALP = 4;

    private static final int NORTH = 0;
    private static final int EAST = 1;
    private static final int SOUTH = 2;
    private static final int WEST = 3;
    private static final int DIRECTIONS = 4;

    private final Page page;
    private final Hills now;
    private final Hills kept;
    private final int[] drawn;
    private boolean imageKept;
    private int timesRead;

    public StickWays() {
        page = new Page();
        now = new Hills();
        kept = new Hills();
        drawn = new int[MOST_STICKS];
        imageKept = false;
        timesRead = 0;
    }

    // ---- the hills

    public int letter(int code) {
        if (code < 1 || code > MOST_CODE) {
            return OUTSIDE;
        }
        return page.append((char) code) ? page.length : FULL;
    }

    public int blank() {
        int had = page.length;
        page.length = 0;
        return had;
    }

    public int fault() {
        return page.firstFault();
    }

    public int hills() {
        if (!page.tellsHills()) {
            return STATE;
        }
        page.readInto(now);
        page.length = 0;
        imageKept = false;
        timesRead++;
        return now.stickCount;
    }

    public int stick(int stick, int what) {
        if (!now.has(stick)) {
            return UNKNOWN;
        }
        Stick asked = now.sticks[stick];
        if (what >= FIRST_STEP_TOLD && what < FIRST_STEP_TOLD + MOST_STEPS) {
            return asked.stepOrNone(what - FIRST_STEP_TOLD);
        }
        switch (what) {
            case 0: return asked.kind;
            case 1: return asked.begin;
            case 2: return asked.stepCount;
            case 3: return now.lateBy[stick];
            case 4: return now.lateBy[stick] + asked.hoursOfWalk();
            case 5: return asked.trail[LAST_HOUR];
            case 6: return Integer.bitCount(asked.places);
            default: return OUTSIDE;
        }
    }

    public int as(int stick, int kind) {
        if (!now.has(stick)) {
            return UNKNOWN;
        }
        if (kind < 0 || kind >= KIND_LETTERS.length()) {
            return OUTSIDE;
        }
        return now.sticks[stick].isOfKind(kind) ? stick : NONE;
    }

    public int at(int stick, int hour) {
        if (!now.has(stick)) {
            return UNKNOWN;
        }
        return isHour(hour) ? now.placeAt(stick, hour) : OUTSIDE;
    }

    public int meet(int a, int b) {
        if (!now.hasBoth(a, b)) {
            return UNKNOWN;
        }
        return now.hoursTogether(a, now.lateBy[a], b, now.lateBy[b]);
    }

    // ---- sticks

    public int late(int stick, int hours) {
        if (!now.has(stick)) {
            return UNKNOWN;
        }
        if (hours < 0 || hours > MOST_LATE) {
            return OUTSIDE;
        }
        int was = now.lateBy[stick];
        now.lateBy[stick] = hours;
        now.changes++;
        return was;
    }

    public int cut(int stick, int steps) {
        if (!now.has(stick)) {
            return UNKNOWN;
        }
        int had = now.sticks[stick].stepCount;
        if (steps < 1 || steps > had) {
            return OUTSIDE;
        }
        now.sticks[stick].shortenTo(steps);
        now.changes++;
        return had;
    }

    public int saw(int stick, int steps) {
        if (!now.has(stick)) {
            return UNKNOWN;
        }
        if (steps < 1 || steps >= now.sticks[stick].stepCount) {
            return OUTSIDE;
        }
        if (now.stickCount >= MOST_STICKS) {
            return FULL;
        }
        now.divide(stick, steps);
        now.changes++;
        return now.stickCount - 1;
    }

    // ---- what would be

    public int later(int a, int b) {
        if (!now.hasBoth(a, b)) {
            return UNKNOWN;
        }
        for (int hours = 0; hours <= MOST_LATE; hours++) {
            if (now.hoursTogether(a, now.lateBy[a], b, hours) > 0) {
                return hours;
            }
        }
        return NONE;
    }

    public int cover(int places, int what) {
        if (places < 0 || places >= 1 << PLACES || what < 0 || what > 1) {
            return OUTSIDE;
        }
        if (now.stickCount == 0) {
            return STATE;
        }
        int fewest = now.fewestSeeing(places);
        return what == 1 || fewest == NONE ? fewest : Integer.bitCount(fewest);
    }

    public int catches(int place, int stick) {
        if (!now.has(stick)) {
            return UNKNOWN;
        }
        return isPlace(place) ? now.firstCatch(place, stick) : OUTSIDE;
    }

    // ---- what is seen

    public int see(int place, int hour) {
        if (!isPlace(place) || !isHour(hour)) {
            return OUTSIDE;
        }
        return now.noteSeen(place, hour) ? now.seenCount : FULL;
    }

    public int forget() {
        int had = now.seenCount;
        now.seenCount = 0;
        return had;
    }

    public int whose() {
        return now.stickCount == 0 ? STATE : now.possible();
    }

    public int look() {
        return now.stickCount == 0 ? STATE : now.bestHourToLook();
    }

    public int mornings(int many, int seed, int what) {
        if (many < 1 || many > MOST_MORNINGS || seed < 0 || what < 0 || what > 2) {
            return OUTSIDE;
        }
        if (now.stickCount == 0) {
            return STATE;
        }
        int meetings = 0;
        int lastSeed = seed;
        for (int morning = 0; morning < many; morning++) {
            lastSeed = drawLateness(lastSeed);
            meetings += now.meetings(drawn);
        }
        switch (what) {
            case 0: return meetings;
            // Whatever was drawn, each stick is at all of its places: see Stick.places.
            case 1: return Integer.bitCount(now.placesSeen());
            default: return lastSeed;
        }
    }

    // ---- what is told of all

    public int image() {
        if (now.stickCount == 0) {
            return STATE;
        }
        kept.copyFrom(now);
        imageKept = true;
        return now.changes;
    }

    public int restore() {
        if (!imageKept) {
            return STATE;
        }
        now.copyFrom(kept);
        return now.changes;
    }

    public int count(int what) {
        switch (what) {
            case 0: return now.stickCount;
            case 1: return now.stepsOfAll();
            case 2: return Integer.bitCount(now.placesSeen());
            case 3: return now.meetings(now.lateBy);
            case 4: return now.changes;
            case 5: return now.seenCount;
            case 6: return page.length;
            case 7: return timesRead;
            default: return OUTSIDE;
        }
    }

    public long digest() {
        long hash = 1049;
        for (int stick = 0; stick < now.stickCount; stick++) {
            hash = withStick(hash, stick);
        }
        if (now.stickCount > 0) {
            int places = 1 << 0 | 1 << 5;
            hash = with(hash, whose());
            hash = with(hash, look());
            hash = with(hash, cover(places, 0));
            hash = with(hash, cover(places, 1));
        }
        for (int i = 0; i < page.length; i++) {
            hash = with(hash, page.letters[i]);
        }
        for (int what = 0; what < COUNTS; what++) {
            hash = with(hash, count(what));
        }
        return hash;
    }

    // ---- helpers

    private static boolean isPlace(int place) {
        return place >= 0 && place < PLACES;
    }

    private static boolean isHour(int hour) {
        return hour >= 0 && hour <= LAST_HOUR;
    }

    private static long with(long hash, long number) {
        return 31 * hash + number;
    }

    private long withStick(long start, int stick) {
        long hash = start;
        for (int what = 0; what <= 6; what++) {
            hash = with(hash, stick(stick, what));
        }
        for (int step = 0; step < MOST_STEPS; step++) {
            hash = with(hash, stick(stick, FIRST_STEP_TOLD + step));
        }
        hash = with(hash, at(stick, 1));
        hash = with(hash, at(stick, 5));
        hash = with(hash, at(stick, LAST_HOUR));
        return with(hash, catches(0, stick));
    }

    /** Draws how late each stick is on one morning; answers the seed behind the last draw. */
    private int drawLateness(int seed) {
        int next = seed;
        for (int stick = 0; stick < now.stickCount; stick++) {
            next = (int) ((1103515245L * next + 12345L) & 0x7FFFFFFFL);
            drawn[stick] = next / 65536 % DRAW_OF;
        }
        return next;
    }

    /** A step off the hills leads nowhere. */
    private static int stepFrom(int place, int direction) {
        int row = place / SIDE;
        int column = place % SIDE;
        switch (direction) {
            case NORTH: return row > 0 ? place - SIDE : place;
            case EAST: return column < SIDE - 1 ? place + 1 : place;
            case SOUTH: return row < SIDE - 1 ? place + SIDE : place;
            case WEST: return column > 0 ? place - 1 : place;
            default: return place;
        }
    }

    private static int stepsBetween(int place, int other) {
        return Math.abs(place / SIDE - other / SIDE) + Math.abs(place % SIDE - other % SIDE);
    }

    /** The letters that are to be read as hills. */
    private static final class Page {
        private static final int FIRST_STEP = 2;

        private final char[] letters;
        private int length;

        Page() {
            letters = new char[MOST_LETTERS];
            length = 0;
        }

        boolean append(char letter) {
            if (length >= MOST_LETTERS) {
                return false;
            }
            letters[length] = letter;
            length++;
            return true;
        }

        int firstFault() {
            int position = 0;
            int sticksBefore = 0;
            for (int i = 0; i < length; i++) {
                if (!fits(letters[i], position, sticksBefore)) {
                    return i;
                }
                position++;
                // A "," fits only behind a step, so here it always ends a stick.
                if (letters[i] == BETWEEN) {
                    position = 0;
                    sticksBefore++;
                }
            }
            return length;
        }

        private static boolean fits(char letter, int position, int sticksBefore) {
            if (position == 0) {
                return KIND_LETTERS.indexOf(letter) >= 0;
            }
            if (position == 1) {
                return isPlace(letter - FIRST_PLACE_LETTER);
            }
            if (letter == BETWEEN) {
                return position > FIRST_STEP && sticksBefore < MOST_STICKS_READ - 1;
            }
            return position < FIRST_STEP + MOST_STEPS && STEP_LETTERS.indexOf(letter) >= 0;
        }

        boolean tellsHills() {
            return firstFault() == length && lettersOfLastStick() > FIRST_STEP;
        }

        private int lettersOfLastStick() {
            int letterCount = 0;
            for (int i = 0; i < length; i++) {
                letterCount = letters[i] == BETWEEN ? 0 : letterCount + 1;
            }
            return letterCount;
        }

        /** To be called only if the page tells hills. */
        void readInto(Hills hills) {
            hills.clear();
            int position = 0;
            int kind = PLAIN;
            Stick read = null;
            for (int i = 0; i < length; i++) {
                char letter = letters[i];
                if (letter == BETWEEN) {
                    position = 0;
                    continue;
                }
                if (position == 0) {
                    kind = KIND_LETTERS.indexOf(letter);
                } else if (position == 1) {
                    read = hills.add(kind, letter - FIRST_PLACE_LETTER);
                } else if (read != null) {
                    read.addStep(STEP_LETTERS.indexOf(letter));
                }
                position++;
            }
        }
    }

    /** A stick and its walk, as it is when the stick is not late. */
    private static final class Stick {
        private int kind;
        private int begin;
        private int stepCount;
        private final int[] way;
        /** Where it is so many hours after it set out. */
        private final int[] trail;
        /**
         * All places of its walk, as bits. A walk takes 20 hours at most and begins 9 hours
         * late at most, so it ends by hour 29, and lateness hides none of these.
         */
        private int places;

        Stick() {
            kind = PLAIN;
            begin = 0;
            stepCount = 0;
            way = new int[MOST_STEPS];
            trail = new int[LAST_HOUR + 1];
            places = 0;
        }

        void startAnew(int newKind, int newBegin) {
            kind = newKind;
            begin = newBegin;
            stepCount = 0;
            retrace();
        }

        void addStep(int direction) {
            if (stepCount < MOST_STEPS) {
                way[stepCount] = direction;
                stepCount++;
                retrace();
            }
        }

        void shortenTo(int steps) {
            stepCount = Math.min(stepCount, steps);
            retrace();
        }

        void copyFrom(Stick other) {
            kind = other.kind;
            begin = other.begin;
            stepCount = other.stepCount;
            System.arraycopy(other.way, 0, way, 0, MOST_STEPS);
            retrace();
        }

        int stepOrNone(int index) {
            return index >= 0 && index < stepCount ? way[index] : NONE;
        }

        boolean isOfKind(int asked) {
            return asked == PLAIN || asked == kind || asked == CROOK && kind == ALP;
        }

        int placeAt(int hour, int hoursLate) {
            int walked = hour - hoursLate;
            if (walked < 0) {
                return begin;
            }
            return trail[walked <= LAST_HOUR ? walked : LAST_HOUR];
        }

        /** Where a plain stick with this way would be behind so many steps. */
        int placeBehind(int steps) {
            int place = begin;
            for (int i = 0; i < steps && i < stepCount; i++) {
                place = stepFrom(place, way[i]);
            }
            return place;
        }

        int hoursOfWalk() {
            return stepsOfWalk() * hoursPerStep();
        }

        private int stepsOfWalk() {
            switch (kind) {
                case CROOK: return 2 * stepCount;
                case ALP: return 4 * stepCount;
                default: return stepCount;
            }
        }

        private int hoursPerStep() {
            return kind == LAME ? 2 : 1;
        }

        private void retrace() {
            int place = begin;
            int stepsMade = 0;
            trail[0] = place;
            places = 1 << place;
            for (int hour = 1; hour <= LAST_HOUR; hour++) {
                if (hour <= hoursOfWalk() && hour % hoursPerStep() == 0) {
                    place = stepFrom(place, directionOf(stepsMade));
                    stepsMade++;
                }
                trail[hour] = place;
                places |= 1 << place;
            }
        }

        /** The way is gone forth and back in turn; only crooks and alps come to go it back. */
        private int directionOf(int stepsMade) {
            if (stepCount == 0) {
                return NONE;
            }
            int index = stepsMade % stepCount;
            boolean goesBack = stepsMade / stepCount % 2 == 1;
            int direction = goesBack ? way[stepCount - 1 - index] : way[index];
            return goesBack || kind == CROSS ? (direction + 2) % DIRECTIONS : direction;
        }
    }

    /** What an image keeps: the sticks, how late they are, the changes and what is seen. */
    private static final class Hills {
        private final Stick[] sticks;
        private final int[] lateBy;
        private final int[] seenPlaces;
        private final int[] seenHours;
        private int stickCount;
        private int changes;
        private int seenCount;

        Hills() {
            sticks = new Stick[MOST_STICKS];
            for (int i = 0; i < MOST_STICKS; i++) {
                sticks[i] = new Stick();
            }
            lateBy = new int[MOST_STICKS];
            seenPlaces = new int[MOST_SEEN];
            seenHours = new int[MOST_SEEN];
            clear();
        }

        void clear() {
            stickCount = 0;
            changes = 0;
            seenCount = 0;
        }

        void copyFrom(Hills other) {
            stickCount = other.stickCount;
            for (int i = 0; i < MOST_STICKS; i++) {
                sticks[i].copyFrom(other.sticks[i]);
            }
            System.arraycopy(other.lateBy, 0, lateBy, 0, MOST_STICKS);
            changes = other.changes;
            seenCount = other.seenCount;
            System.arraycopy(other.seenPlaces, 0, seenPlaces, 0, MOST_SEEN);
            System.arraycopy(other.seenHours, 0, seenHours, 0, MOST_SEEN);
        }

        boolean has(int number) {
            return number >= 0 && number < stickCount;
        }

        boolean hasBoth(int a, int b) {
            return has(a) && has(b) && a != b;
        }

        /** A new stick without steps, not late; null if there are as many as there may be. */
        Stick add(int kind, int begin) {
            if (stickCount >= MOST_STICKS) {
                return null;
            }
            Stick added = sticks[stickCount];
            added.startAnew(kind, begin);
            lateBy[stickCount] = 0;
            stickCount++;
            return added;
        }

        void divide(int number, int steps) {
            Stick first = sticks[number];
            Stick rest = add(first.kind, first.placeBehind(steps));
            if (rest == null) {
                return;
            }
            for (int i = steps; i < first.stepCount; i++) {
                rest.addStep(first.stepOrNone(i));
            }
            first.shortenTo(steps);
        }

        int placeAt(int number, int hour) {
            return sticks[number].placeAt(hour, lateBy[number]);
        }

        int hoursTogether(int a, int lateA, int b, int lateB) {
            int hours = 0;
            for (int hour = 0; hour <= LAST_HOUR; hour++) {
                if (sticks[a].placeAt(hour, lateA) == sticks[b].placeAt(hour, lateB)) {
                    hours++;
                }
            }
            return hours;
        }

        /** Hours together of all pairs, if each stick is as late as told. */
        int meetings(int[] late) {
            int total = 0;
            for (int a = 0; a < stickCount; a++) {
                for (int b = a + 1; b < stickCount; b++) {
                    total += hoursTogether(a, late[a], b, late[b]);
                }
            }
            return total;
        }

        int stepsOfAll() {
            int total = 0;
            for (int i = 0; i < stickCount; i++) {
                total += sticks[i].stepCount;
            }
            return total;
        }

        int placesSeen() {
            return placesSeenBy((1 << stickCount) - 1);
        }

        private int placesSeenBy(int group) {
            int places = 0;
            for (int i = 0; i < stickCount; i++) {
                if ((group >> i & 1) == 1) {
                    places |= sticks[i].places;
                }
            }
            return places;
        }

        /** Groups come in rising order, so of equally small ones the least stays. */
        int fewestSeeing(int places) {
            int best = NONE;
            for (int group = 0; group < 1 << stickCount; group++) {
                boolean fewer = best == NONE || Integer.bitCount(group) < Integer.bitCount(best);
                if (fewer && (places & ~placesSeenBy(group)) == 0) {
                    best = group;
                }
            }
            return best;
        }

        /** No two places are more than 6 steps apart, so one is always caught. */
        int firstCatch(int place, int number) {
            for (int hour = 0; hour <= LAST_HOUR; hour++) {
                if (stepsBetween(place, placeAt(number, hour)) <= hour) {
                    return hour;
                }
            }
            return NONE;
        }

        boolean noteSeen(int place, int hour) {
            if (seenCount >= MOST_SEEN) {
                return false;
            }
            seenPlaces[seenCount] = place;
            seenHours[seenCount] = hour;
            seenCount++;
            return true;
        }

        /** The sticks, as bits, that were everywhere where one was seen. */
        int possible() {
            int bits = 0;
            for (int i = 0; i < stickCount; i++) {
                if (wasWhereSeen(i)) {
                    bits |= 1 << i;
                }
            }
            return bits;
        }

        private boolean wasWhereSeen(int number) {
            for (int i = 0; i < seenCount; i++) {
                if (placeAt(number, seenHours[i]) != seenPlaces[i]) {
                    return false;
                }
            }
            return true;
        }

        int bestHourToLook() {
            int candidates = possible();
            if (candidates == 0) {
                return NONE;
            }
            int best = 0;
            int fewestLeft = mostLeft(candidates, 0);
            for (int hour = 1; hour <= LAST_HOUR; hour++) {
                int left = mostLeft(candidates, hour);
                if (left < fewestLeft) {
                    best = hour;
                    fewestLeft = left;
                }
            }
            return best;
        }

        /** How many candidates at worst are at one place at this hour. */
        private int mostLeft(int candidates, int hour) {
            int most = 0;
            for (int i = 0; i < stickCount; i++) {
                if ((candidates >> i & 1) == 1) {
                    most = Math.max(most, togetherWith(i, candidates, hour));
                }
            }
            return most;
        }

        private int togetherWith(int number, int candidates, int hour) {
            int together = 0;
            for (int i = 0; i < stickCount; i++) {
                boolean candidate = (candidates >> i & 1) == 1;
                if (candidate && placeAt(i, hour) == placeAt(number, hour)) {
                    together++;
                }
            }
            return together;
        }
    }
}
