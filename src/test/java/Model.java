import java.util.ArrayList;
import java.util.HashMap;
import java.util.HashSet;
import java.util.List;
import java.util.Map;
import java.util.Set;
import java.util.regex.Matcher;
import java.util.regex.Pattern;

/**
 * The document once more, written another way round and without care for speed, to compare
 * the program with: sticks are texts, and each morning is gone anew for every answer.
 */
final class Model {
    private static final String ONE = "[kclxa][a-p][nesw]{1,5}";
    private static final Pattern HILLS = Pattern.compile(ONE + "(," + ONE + "){0,3}");

    /** A stick as the text would tell it, and how late it is. */
    private record Rod(char kind, int begin, String way, int late) {
        Rod lateBy(int hours) {
            return new Rod(kind, begin, way, hours);
        }

        List<Integer> morning() {
            StringBuilder steps = new StringBuilder(kind == 'x' ? turned(way) : way);
            if (kind == 'c' || kind == 'a') {
                steps.append(turned(new StringBuilder(way).reverse().toString()));
            }
            if (kind == 'a') {
                steps.append(steps.toString());
            }
            List<Integer> places = new ArrayList<>();
            for (int hour = 0; hour <= late; hour++) {
                places.add(begin);
            }
            for (char step : steps.toString().toCharArray()) {
                int from = places.get(places.size() - 1);
                if (kind == 'l') {
                    places.add(from);
                }
                places.add(Model.step(from, step));
            }
            return places;
        }

        int end() {
            return morning().size() - 1;
        }

        int at(int hour) {
            List<Integer> places = morning();
            return places.get(Math.min(hour, places.size() - 1));
        }

        Set<Integer> seen() {
            Set<Integer> seen = new HashSet<>();
            for (int hour = 0; hour <= 30; hour++) {
                seen.add(at(hour));
            }
            return seen;
        }
    }

    private record Sight(int place, int hour) {
    }

    private record Image(List<Rod> rods, List<Sight> sights, int changes) {
    }

    private String page = "";
    private List<Rod> rods = new ArrayList<>();
    private List<Sight> sights = new ArrayList<>();
    private int changes = 0;
    private int timesRead = 0;
    private Image image = null;

    private static String turned(String way) {
        return way.replace('n', 'S').replace('s', 'n').replace('S', 's')
            .replace('e', 'W').replace('w', 'e').replace('W', 'w');
    }

    private static int step(int place, char to) {
        int row = place / 4 + (to == 's' ? 1 : to == 'n' ? -1 : 0);
        int column = place % 4 + (to == 'e' ? 1 : to == 'w' ? -1 : 0);
        return row < 0 || row > 3 || column < 0 || column > 3 ? place : 4 * row + column;
    }

    private boolean unknown(int stick) {
        return stick < 0 || stick >= rods.size();
    }

    private static boolean outside(int number, int least, int most) {
        return number < least || number > most;
    }

    /** The answer of a call by its name; arguments beyond those it has are not looked at. */
    long call(String name, int a, int b, int c) {
        switch (name) {
            case "letter": return letter(a);
            case "blank": return blank();
            case "fault": return fault();
            case "hills": return hills();
            case "stick": return stick(a, b);
            case "as": return as(a, b);
            case "at": return at(a, b);
            case "meet": return meet(a, b);
            case "late": return late(a, b);
            case "cut": return cut(a, b);
            case "saw": return saw(a, b);
            case "later": return later(a, b);
            case "cover": return cover(a, b);
            case "catches": return catches(a, b);
            case "see": return see(a, b);
            case "forget": return forget();
            case "whose": return whose();
            case "look": return look();
            case "mornings": return mornings(a, b, c);
            case "image": return image();
            case "restore": return restore();
            case "count": return count(a);
            case "digest": return digest();
            default: throw new IllegalArgumentException(name);
        }
    }

    private int letter(int code) {
        if (outside(code, 1, 126)) {
            return Check.OUTSIDE;
        }
        if (page.length() == 32) {
            return Check.FULL;
        }
        page += (char) code;
        return page.length();
    }

    private int blank() {
        int had = page.length();
        page = "";
        return had;
    }

    private int fault() {
        for (int length = 1; length <= page.length(); length++) {
            Matcher matcher = HILLS.matcher(page.substring(0, length));
            if (!matcher.matches() && !matcher.hitEnd()) {
                return length - 1;
            }
        }
        return page.length();
    }

    private int hills() {
        if (!HILLS.matcher(page).matches()) {
            return Check.STATE;
        }
        rods = new ArrayList<>();
        for (String text : page.split(",")) {
            rods.add(new Rod(text.charAt(0), text.charAt(1) - 'a', text.substring(2), 0));
        }
        sights = new ArrayList<>();
        changes = 0;
        image = null;
        timesRead++;
        page = "";
        return rods.size();
    }

    private int stick(int stick, int what) {
        if (unknown(stick)) {
            return Check.UNKNOWN;
        }
        Rod rod = rods.get(stick);
        if (!outside(what, 10, 14)) {
            return what - 10 < rod.way.length() ? "nesw".indexOf(rod.way.charAt(what - 10)) : Check.NONE;
        }
        if (outside(what, 0, 6)) {
            return Check.OUTSIDE;
        }
        int[] told = {"kclxa".indexOf(rod.kind), rod.begin, rod.way.length(), rod.late, rod.end(),
            rod.at(rod.end()), rod.seen().size()};
        return told[what];
    }

    private int as(int stick, int kind) {
        if (unknown(stick)) {
            return Check.UNKNOWN;
        }
        if (outside(kind, 0, 4)) {
            return Check.OUTSIDE;
        }
        String[] whoIs = {"kclxa", "ca", "l", "x", "a"};
        return whoIs[kind].indexOf(rods.get(stick).kind) >= 0 ? stick : Check.NONE;
    }

    private int at(int stick, int hour) {
        if (unknown(stick)) {
            return Check.UNKNOWN;
        }
        return outside(hour, 0, 30) ? Check.OUTSIDE : rods.get(stick).at(hour);
    }

    private static int together(Rod one, Rod other) {
        int hours = 0;
        for (int hour = 0; hour <= 30; hour++) {
            hours += one.at(hour) == other.at(hour) ? 1 : 0;
        }
        return hours;
    }

    private static int together(List<Rod> all) {
        int hours = 0;
        for (int a = 0; a < all.size(); a++) {
            for (int b = 0; b < a; b++) {
                hours += together(all.get(a), all.get(b));
            }
        }
        return hours;
    }

    private int meet(int a, int b) {
        return unknown(a) || unknown(b) || a == b ? Check.UNKNOWN : together(rods.get(a), rods.get(b));
    }

    private int late(int stick, int hours) {
        if (unknown(stick)) {
            return Check.UNKNOWN;
        }
        if (outside(hours, 0, 9)) {
            return Check.OUTSIDE;
        }
        changes++;
        return rods.set(stick, rods.get(stick).lateBy(hours)).late;
    }

    private int cut(int stick, int steps) {
        if (unknown(stick)) {
            return Check.UNKNOWN;
        }
        Rod rod = rods.get(stick);
        if (outside(steps, 1, rod.way.length())) {
            return Check.OUTSIDE;
        }
        changes++;
        rods.set(stick, new Rod(rod.kind, rod.begin, rod.way.substring(0, steps), rod.late));
        return rod.way.length();
    }

    private int saw(int stick, int steps) {
        if (unknown(stick)) {
            return Check.UNKNOWN;
        }
        Rod rod = rods.get(stick);
        if (outside(steps, 1, rod.way.length() - 1)) {
            return Check.OUTSIDE;
        }
        if (rods.size() == 6) {
            return Check.FULL;
        }
        changes++;
        String first = rod.way.substring(0, steps);
        int behind = new Rod('k', rod.begin, first, 0).at(30);
        rods.set(stick, new Rod(rod.kind, rod.begin, first, rod.late));
        rods.add(new Rod(rod.kind, behind, rod.way.substring(steps), 0));
        return rods.size() - 1;
    }

    private int later(int a, int b) {
        if (unknown(a) || unknown(b) || a == b) {
            return Check.UNKNOWN;
        }
        int least = Check.NONE;
        for (int hours = 9; hours >= 0; hours--) {
            least = together(rods.get(a), rods.get(b).lateBy(hours)) > 0 ? hours : least;
        }
        return least;
    }

    private int cover(int places, int what) {
        if (outside(places, 0, 65535) || outside(what, 0, 1)) {
            return Check.OUTSIDE;
        }
        if (rods.isEmpty()) {
            return Check.STATE;
        }
        for (int few = 0; few <= rods.size(); few++) {
            for (int group = 0; group < 1 << rods.size(); group++) {
                if (Integer.bitCount(group) == few && isSeen(places, group)) {
                    return what == 0 ? few : group;
                }
            }
        }
        return Check.NONE;
    }

    private boolean isSeen(int places, int group) {
        Set<Integer> seen = new HashSet<>();
        for (int stick = 0; stick < rods.size(); stick++) {
            if ((group & 1 << stick) != 0) {
                seen.addAll(rods.get(stick).seen());
            }
        }
        for (int place = 0; place < 16; place++) {
            if ((places & 1 << place) != 0 && !seen.contains(place)) {
                return false;
            }
        }
        return true;
    }

    /** All places that can be reached by an hour are kept, not how far away the stick is. */
    private int catches(int place, int stick) {
        if (unknown(stick)) {
            return Check.UNKNOWN;
        }
        if (outside(place, 0, 15)) {
            return Check.OUTSIDE;
        }
        Set<Integer> reached = new HashSet<>(List.of(place));
        int hour = 0;
        while (!reached.contains(rods.get(stick).at(hour))) {
            for (int from : new ArrayList<>(reached)) {
                for (char to : "nesw".toCharArray()) {
                    reached.add(step(from, to));
                }
            }
            hour++;
        }
        return hour;
    }

    private int see(int place, int hour) {
        if (outside(place, 0, 15) || outside(hour, 0, 30)) {
            return Check.OUTSIDE;
        }
        if (sights.size() == 8) {
            return Check.FULL;
        }
        sights.add(new Sight(place, hour));
        return sights.size();
    }

    private int forget() {
        int had = sights.size();
        sights.clear();
        return had;
    }

    private List<Integer> suspects() {
        List<Integer> suspects = new ArrayList<>();
        for (int stick = 0; stick < rods.size(); stick++) {
            Rod rod = rods.get(stick);
            if (sights.stream().allMatch(sight -> rod.at(sight.hour) == sight.place)) {
                suspects.add(stick);
            }
        }
        return suspects;
    }

    private int whose() {
        return rods.isEmpty() ? Check.STATE : suspects().stream().mapToInt(stick -> 1 << stick).sum();
    }

    private int look() {
        if (rods.isEmpty()) {
            return Check.STATE;
        }
        int best = Check.NONE;
        int fewest = Integer.MAX_VALUE;
        for (int hour = 0; hour <= 30 && !suspects().isEmpty(); hour++) {
            Map<Integer, Integer> left = new HashMap<>();
            for (int stick : suspects()) {
                left.merge(rods.get(stick).at(hour), 1, Integer::sum);
            }
            int most = left.values().stream().mapToInt(Integer::intValue).max().orElseThrow();
            if (most < fewest) {
                fewest = most;
                best = hour;
            }
        }
        return best;
    }

    private long mornings(int many, int seed, int what) {
        if (outside(many, 1, 20) || seed < 0 || outside(what, 0, 2)) {
            return Check.OUTSIDE;
        }
        if (rods.isEmpty()) {
            return Check.STATE;
        }
        long next = seed;
        int meetings = 0;
        List<Rod> drawn = List.of();
        for (int morning = 0; morning < many; morning++) {
            drawn = new ArrayList<>();
            for (Rod rod : rods) {
                next = (1103515245L * next + 12345L) % (1L << 31);
                drawn.add(rod.lateBy((int) (next / 65536 % 4)));
            }
            meetings += together(drawn);
        }
        return what == 0 ? meetings : what == 1 ? seenBy(drawn) : next;
    }

    private static int seenBy(List<Rod> all) {
        Set<Integer> seen = new HashSet<>();
        all.forEach(rod -> seen.addAll(rod.seen()));
        return seen.size();
    }

    private int image() {
        if (rods.isEmpty()) {
            return Check.STATE;
        }
        image = new Image(List.copyOf(rods), List.copyOf(sights), changes);
        return changes;
    }

    private int restore() {
        if (image == null) {
            return Check.STATE;
        }
        rods = new ArrayList<>(image.rods);
        sights = new ArrayList<>(image.sights);
        changes = image.changes;
        return changes;
    }

    private int count(int what) {
        if (outside(what, 0, 7)) {
            return Check.OUTSIDE;
        }
        int steps = rods.stream().mapToInt(rod -> rod.way.length()).sum();
        int[] told = {rods.size(), steps, seenBy(rods), together(rods), changes, sights.size(),
            page.length(), timesRead};
        return told[what];
    }

    private long digest() {
        List<Integer> told = new ArrayList<>();
        for (int stick = 0; stick < rods.size(); stick++) {
            for (int what : new int[] {0, 1, 2, 3, 4, 5, 6, 10, 11, 12, 13, 14}) {
                told.add(stick(stick, what));
            }
            for (int hour : new int[] {1, 5, 30}) {
                told.add(at(stick, hour));
            }
            told.add(catches(0, stick));
        }
        if (!rods.isEmpty()) {
            told.addAll(List.of(whose(), look(), cover(33, 0), cover(33, 1)));
        }
        page.chars().forEach(told::add);
        for (int what = 0; what < 8; what++) {
            told.add(count(what));
        }
        long hash = 1049;
        for (int number : told) {
            hash = 31 * hash + number;
        }
        return hash;
    }
}
