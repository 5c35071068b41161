import java.math.BigInteger;
import java.nio.charset.StandardCharsets;
import java.util.ArrayDeque;
import java.util.ArrayList;
import java.util.Arrays;
import java.util.Deque;
import java.util.HashMap;
import java.util.List;
import java.util.Map;
import java.util.NoSuchElementException;
import java.util.function.IntPredicate;
import java.util.regex.Matcher;
import java.util.regex.Pattern;

/**
 * The document once more, with the Java library and by trying all, to be compared with BarberMinutes.
 * It is written apart from the program and shares nothing with it.
 */
final class PlainModel {
    /** How a line goes on behind its first word: a word, N:sort a new name, U:sort a told one, C a colour, W:least:most. */
    private static final Map<String, String> LINES = Map.of(
        "town", "grows W:0:9 bald W:0:20 shave W:0:100",
        "man", "N:man C long W:0:99 votes W:0:9",
        "motion", "N:motion cuts W:1:30 needs W:0:54 worth W:0:99",
        "against", "U:man U:motion",
        "amends", "U:motion U:motion",
        "quarrel", "U:man U:man",
        "chair", "N:chair at W:0:99",
        "heap", "C W:0:999");
    private static final Map<String, Integer> ROOM = Map.of(
        "man", 6, "motion", 5, "against", 9, "amends", 6, "quarrel", 9, "chair", 5);
    private static final List<String> COLOURS = List.of("fair", "dark", "grey");

    private record Token(String text, int at) {
        boolean isWord() {
            return text.matches("[a-z]{1,8}");
        }

        boolean isWhole() {
            return text.matches("[0-9]{1,3}");
        }
    }

    private static final class Fault extends Exception {
        private static final long serialVersionUID = 1;
        final int number;
        final int at;

        Fault(int number, int at) {
            this.number = number;
            this.at = at;
        }
    }

    /** Lines by their first words, each as its numbers. */
    private record Told(Map<String, List<int[]>> lines) {
        int[] get(String sort, int i) {
            return lines.get(sort).get(i);
        }

        int count(String sort) {
            return lines.get(sort).size();
        }

        boolean has(String sort, int a, int b) {
            return lines.get(sort).stream().anyMatch(l -> l[0] == a && l[1] == b);
        }

        boolean quarrel(int a, int b) {
            return has("quarrel", a, b) || has("quarrel", b, a);
        }
    }

    private record State(List<Integer> hair, List<Integer> floor, int carried, int weeks) {
    }

    private String tape = "";
    private Told told;
    private State now;
    private final Deque<State> acts = new ArrayDeque<>();
    private final List<State> images = new ArrayList<>();
    int fault;
    private int place;
    int trouble;

    // ---- reading

    private static List<Token> tokens(String text) {
        List<Token> found = new ArrayList<>();
        Matcher m = Pattern.compile("[a-z]+|[0-9]+|[^ ]", Pattern.DOTALL).matcher(text);
        while (m.find()) {
            found.add(new Token(m.group(), m.start()));
        }
        found.add(new Token("", text.length()));
        return found;
    }

    private static Told read(String text) throws Fault {
        Told told = new Told(new HashMap<>());
        LINES.keySet().forEach(sort -> told.lines.put(sort, new ArrayList<>()));
        Map<String, int[]> names = new HashMap<>();
        Map<String, String> sorts = new HashMap<>();
        Deque<Token> rest = new ArrayDeque<>(tokens(text));
        while (true) {
            Token first = rest.pop();
            String sort = first.text;
            need(LINES.containsKey(sort), 1, first);
            need(!sort.equals("town") || told.count("town") == 0, 3, first);
            need(told.count(sort) < ROOM.getOrDefault(sort, 1000), 5, first);
            need(sort.equals("town") || told.count("town") == 1, 6, first);
            String[] due = LINES.get(sort).split(" ");
            List<Integer> numbers = new ArrayList<>();
            for (String part : due) {
                Token t = rest.pop();
                String[] p = part.split(":");
                switch (p[0]) {
                    case "N" -> {
                        need(t.isWord() && !LINES.containsKey(t.text), 1, t);
                        need(!names.containsKey(t.text), 3, t);
                        names.put(t.text, new int[] {told.count(sort)});
                        sorts.put(t.text, p[1]);
                    }
                    case "U" -> {
                        need(t.isWord() && !LINES.containsKey(t.text), 1, t);
                        need(p[1].equals(sorts.get(t.text)), 2, t);
                        numbers.add(names.get(t.text)[0]);
                        needNew(told, sort, numbers, t);
                    }
                    case "C" -> {
                        need(COLOURS.contains(t.text), 1, t);
                        numbers.add(COLOURS.indexOf(t.text));
                        need(!sort.equals("heap")
                            || told.lines.get(sort).stream().noneMatch(l -> l[0] == numbers.get(0)), 3, t);
                    }
                    case "W" -> {
                        need(t.isWhole(), 1, t);
                        int whole = Integer.parseInt(t.text);
                        need(whole >= Integer.parseInt(p[1]) && whole <= Integer.parseInt(p[2]), 4, t);
                        numbers.add(whole);
                    }
                    default -> need(t.text.equals(part), 1, t);
                }
            }
            told.lines.get(sort).add(numbers.stream().mapToInt(i -> i).toArray());
            Token last = rest.pop();
            if (last.text.isEmpty()) {
                need(told.count("man") > 0, 6, last);
                return told;
            }
            need(last.text.equals(";"), 1, last);
        }
    }

    private static void needNew(Told told, String sort, List<Integer> numbers, Token t) throws Fault {
        if (numbers.size() == 2) {
            int a = numbers.get(0);
            int b = numbers.get(1);
            need(sort.equals("quarrel") ? a != b && !told.quarrel(a, b) : !told.has(sort, a, b), 3, t);
            need(!sort.equals("amends") || b < a, 7, t);
        }
    }

    private static void need(boolean so, int number, Token at) throws Fault {
        if (!so) {
            throw new Fault(number, at.at);
        }
    }

    // ---- the calls, each by its name

    int feed(int[] numbers) {
        if (tape.length() + 20 > 900) {
            return -1;
        }
        byte[] bytes = new byte[20];
        for (int i = 0; i < 20; i++) {
            bytes[i] = (byte) (numbers[i / 4] >>> 24 - i % 4 * 8);
        }
        tape += new String(bytes, StandardCharsets.ISO_8859_1);
        return tape.length();
    }

    int town(int n) {
        if (n < 0 || n > tape.length()) {
            trouble = 2;
            return -1;
        }
        String text = tape.substring(0, n);
        tape = "";
        try {
            told = read(text);
            now = first();
            acts.clear();
            images.clear();
            fault = 0;
            trouble = 0;
            return men();
        } catch (Fault f) {
            fault = f.number;
            place = f.at;
            trouble = 4;
            return -1;
        }
    }

    int where() {
        return trouble == 4 ? place : -1;
    }

    int led(int i) {
        for (int k = 0, at = 0; k < motions(); k++) {
            if ((now.carried >> k & 1) != 0 && at++ == i) {
                return k;
            }
        }
        throw new NoSuchElementException();
    }

    int size(int what) {
        int[] town = told == null ? new int[3] : told.get("town", 0);
        String[] sorts = {"man", "motion", "against", "amends", "quarrel", "chair", "heap"};
        if (what >= 0 && what < 3) {
            return town[what];
        }
        if (what >= 3 && what < 10) {
            return told == null ? 0 : told.count(sorts[what - 3]);
        }
        return switch (what) {
            case 10 -> now == null ? 0 : now.weeks;
            case 11 -> acts.size();
            case 12 -> images.size();
            case 13 -> tape.length();
            default -> -1;
        };
    }

    /** Any other call, by its name and arguments (a boolean counts 1 or 0). */
    long call(String name, int... a) {
        long refused = name.equals("talk") ? -100 : name.equals("undo") || name.equals("back") ? 0 : -1;
        trouble = name.equals("undo") ? acts.isEmpty() ? 6 : 0 : told == null ? 1 : why(name, a);
        return trouble != 0 ? refused : answer(name, a);
    }

    private static boolean in(int i, int least, int most) {
        return i >= least && i <= most;
    }

    private int why(String name, int[] a) {
        boolean man = a.length > 0 && in(a[0], 0, men() - 1);
        boolean motion = a.length > 0 && in(a[0], 0, motions() - 1);
        return switch (name) {
            case "man" -> man && in(a[1], 0, 6) ? 0 : 1;
            case "motion" -> motion && in(a[1], 0, 7) ? 0 : 1;
            case "floor" -> in(a[0], 0, 2) ? 0 : 1;
            case "behind", "depth", "carryIn", "weeksFor", "odds", "mean" -> motion ? 0 : 1;
            case "longIn" -> !man ? 1 : in(a[1], 0, 60) ? 0 : 2;
            case "yesIn" -> !motion ? 1 : in(a[1], 0, 60) ? 0 : 2;
            case "worthOf" -> !isRow(a[0], a[1]) ? 2 : worth(now, digits(a[0], a[1])) < 0 ? 5 : 0;
            case "bestRow", "bestWorth", "bestCarried" -> in(a[0], 1, 4) ? 0 : 2;
            case "swings" -> !man ? 1 : in(a[1], 0, 54) ? 0 : 2;
            case "mighty", "outvoted", "bench" -> in(a[0], 0, 54) ? 0 : 2;
            case "apart" -> in(a[0], 0, told.count("chair") - 1) && in(a[1], 0, told.count("chair") - 1) ? 0 : 1;
            case "roundAt" -> in(a[0], 0, told.count("chair") - 1) ? 0 : 1;
            case "fitAt" -> in(a[0], 0, fits().size() - 1) ? 0 : 1;
            case "talk", "rests", "rest" -> in(a[0], 0, 9) ? 0 : 2;
            case "shaves" -> !man ? 1 : in(a[1], 0, 65536) && in(a[2], 0, 60) ? 0 : 2;
            case "carries" -> !motion ? 1 : in(a[1], 0, 65536) && in(a[2], 0, 60) ? 0 : 2;
            case "put" -> !motion ? 1 : mayBePut(now, a[0]) ? 0 : 5;
            case "week" -> now.weeks == 999 ? 3 : 0;
            case "shave" -> !man ? 1 : now.hair.get(a[0]) == 0 ? 5 : 0;
            case "image" -> images.size() == 3 ? 3 : 0;
            case "back" -> in(a[0], 0, images.size() - 1) ? 0 : 1;
            default -> 0;
        };
    }

    private long answer(String name, int[] a) {
        return switch (name) {
            case "man" -> ofMan(a[0], a[1]);
            case "motion" -> ofMotion(a[0], a[1]);
            case "floor" -> now.floor.get(a[0]);
            case "bald" -> bits(men(), m -> bald(now, m));
            case "longest" -> most(men(), now.hair.stream().mapToInt(i -> i).toArray(), -1);
            case "ready" -> bits(motions(), k -> mayBePut(now, k) && enough(now, k));
            case "quorum" -> votes(bits(men(), m -> !bald(now, m)));
            case "behind" -> bits(motions(), k -> k != a[0] && amendsFar(k, a[0]));
            case "depth" -> rowTo(a[0]);
            case "longIn" -> weeks(now, a[1]).hair.get(a[0]);
            case "yesIn" -> yes(weeks(now, a[1]), a[0]);
            case "carryIn" -> first(61, n -> enough(weeks(now, n), a[0]));
            case "hairyIn" -> first(61, n -> bits(men(), m -> bald(weeks(now, n), m)) == 0);
            case "soonest" -> soonest();
            default -> answerOfSets(name, a);
        };
    }

    private long answerOfSets(String name, int[] a) {
        return switch (name) {
            case "worthOf" -> worth(now, digits(a[0], a[1]));
            case "bestRow" -> bestRow(a[0]);
            case "bestWorth" -> worth(now, digits(bestRow(a[0]), a[0]));
            case "bestCarried" -> behindRow(now, digits(bestRow(a[0]), a[0])).carried;
            case "weeksFor" -> weeksFor(a[0]);
            case "swings" -> turns(a[0], a[1]);
            case "mighty" -> mighty(a[0]);
            case "outvoted" -> bits(men(), m -> !bald(now, m) && turns(m, a[0]) == 0);
            case "bench" -> fewest(set -> (set & bits(men(), m -> bald(now, m))) == 0 && votes(set) >= a[0]);
            case "parting" -> parting();
            case "left" -> told.count("quarrel") - across(parting());
            case "peace" -> fewest(set -> told.lines.get("quarrel").stream()
                .allMatch(q -> (set >> q[0] & 1) + (set >> q[1] & 1) > 0));
            case "apart" -> apart(a[0], a[1]);
            case "round" -> told.count("chair") < 2 ? 0 : way(bestOrder());
            case "roundAt" -> bestOrder().get(a[0]);
            default -> answerOfFloor(name, a);
        };
    }

    private long answerOfFloor(String name, int[] a) {
        List<Integer> fits = fits();
        return switch (name) {
            case "fits" -> fits.size();
            case "fitAt" -> fits.get(a[0]);
            case "could" -> fits.stream().reduce(0, (x, y) -> x | y);
            case "surely" -> fits.isEmpty() ? 0 : fits.stream().reduce(31, (x, y) -> x & y);
            case "ask" -> ask(fits);
            case "askLeaves" -> ask(fits) < 0 ? -2 : worst(fits, ask(fits));
            case "talk" -> a[3] == 1 ? has(a[0], a[2], a[1]) : has(a[0], a[1], a[2]);
            case "rests" -> rests(a[0]).size();
            case "rest" -> rests(a[0]).isEmpty() ? -2 : rests(a[0]).get(0);
            case "odds" -> odds(a[0])[a[1]];
            case "mean" -> mean(a[0])[a[1]];
            case "shaves" -> shaven(a[1], a[2]).get(a[2]).hair.get(a[0]);
            case "carries" -> shaven(a[1], a[2]).subList(1, a[2] + 1).stream().filter(s -> enough(s, a[0])).count();
            default -> act(name, a);
        };
    }

    private long act(String name, int[] a) {
        State before = now;
        switch (name) {
            case "undo" -> {
                now = acts.pop();
                return 1;
            }
            case "back" -> {
                now = images.get(a[0]);
                acts.clear();
                return 1;
            }
            case "image" -> {
                images.add(now);
                return images.size() - 1;
            }
            case "put" -> now = put(now, a[0]);
            case "week" -> now = weeks(now, 1);
            case "shave" -> now = cut(now, a[0], now.hair.get(a[0]));
            default -> throw new IllegalStateException(name);
        }
        acts.push(before);
        if (acts.size() > 16) {
            acts.removeLast();
        }
        return switch (name) {
            case "put" -> now.carried != before.carried ? 1 : 0;
            case "week" -> bits(men(), m -> bald(now, m));
            default -> before.hair.get(a[0]);
        };
    }

    // ---- hair and motions

    private int men() {
        return told == null ? 0 : told.count("man");
    }

    private int motions() {
        return told == null ? 0 : told.count("motion");
    }

    private static int bits(int count, IntPredicate is) {
        int found = 0;
        for (int i = 0; i < count; i++) {
            found += is.test(i) ? 1 << i : 0;
        }
        return found;
    }

    private static int first(int count, IntPredicate is) {
        for (int i = 0; i < count; i++) {
            if (is.test(i)) {
                return i;
            }
        }
        return -2;
    }

    /** The first with most of those that have more than so much; -2. */
    private static int most(int count, int[] of, int above) {
        int top = Arrays.stream(of).max().orElse(above);
        return top > above ? first(count, i -> of[i] == top) : -2;
    }

    private State first() {
        List<Integer> hair = new ArrayList<>();
        told.lines.get("man").forEach(l -> hair.add(l[1]));
        return new State(hair, List.of(0, 0, 0), 0, 0);
    }

    private State weeks(State s, int n) {
        State found = s;
        for (int i = 0; i < n; i++) {
            List<Integer> hair = found.hair.stream().map(h -> Math.min(200, h + told.get("town", 0)[0])).toList();
            found = new State(hair, found.floor, found.carried, found.weeks + 1);
        }
        return found;
    }

    private boolean bald(State s, int m) {
        return s.hair.get(m) < told.get("town", 0)[1];
    }

    private boolean saysYes(State s, int m, int k) {
        return !bald(s, m) && !told.has("against", m, k) && s.hair.get(m) >= told.get("motion", k)[0];
    }

    private int votes(int set) {
        int found = 0;
        for (int m = 0; m < men(); m++) {
            found += (set >> m & 1) * told.get("man", m)[2];
        }
        return found;
    }

    private int yes(State s, int k) {
        return votes(bits(men(), m -> saysYes(s, m, k)));
    }

    private boolean enough(State s, int k) {
        return yes(s, k) >= told.get("motion", k)[1];
    }

    private boolean mayBePut(State s, int k) {
        int amended = bits(motions(), j -> told.has("amends", k, j));
        return (s.carried >> k & 1) == 0 && (s.carried & amended) == amended;
    }

    private State cut(State s, int m, int off) {
        List<Integer> hair = new ArrayList<>(s.hair);
        List<Integer> floor = new ArrayList<>(s.floor);
        int colour = told.get("man", m)[0];
        hair.set(m, hair.get(m) - off);
        floor.set(colour, floor.get(colour) + off);
        return new State(hair, floor, s.carried, s.weeks);
    }

    private State put(State s, int k) {
        State found = s;
        for (int m = 0; m < men(); m++) {
            if (saysYes(s, m, k)) {
                found = cut(found, m, told.get("motion", k)[0]);
            }
        }
        return new State(found.hair, found.floor, enough(s, k) ? s.carried | 1 << k : s.carried, s.weeks);
    }

    private int ofMan(int m, int what) {
        return switch (what) {
            case 0 -> told.get("man", m)[0];
            case 1 -> now.hair.get(m);
            case 2 -> told.get("man", m)[2];
            case 3 -> bald(now, m) ? 1 : 0;
            case 4 -> bits(motions(), k -> told.has("against", m, k));
            case 5 -> bits(men(), o -> told.quarrel(m, o));
            default -> bits(motions(), k -> saysYes(now, m, k));
        };
    }

    private int ofMotion(int k, int what) {
        return switch (what) {
            case 0, 1, 2 -> told.get("motion", k)[what];
            case 3 -> bits(motions(), j -> told.has("amends", k, j));
            case 4 -> now.carried >> k & 1;
            case 5 -> mayBePut(now, k) ? 1 : 0;
            case 6 -> yes(now, k);
            default -> bits(men(), m -> saysYes(now, m, k));
        };
    }

    private boolean amendsFar(int k, int other) {
        return k == other || bits(motions(), j -> told.has("amends", k, j) && amendsFar(j, other)) != 0;
    }

    private int rowTo(int k) {
        int longest = 0;
        for (int j = 0; j < k; j++) {
            longest = told.has("amends", k, j) ? Math.max(longest, rowTo(j)) : longest;
        }
        return longest + 1;
    }

    private int soonest() {
        for (int n = 0; n <= 60; n++) {
            State then = weeks(now, n);
            int found = first(motions(), k -> mayBePut(now, k) && enough(then, k));
            if (found >= 0) {
                return found;
            }
        }
        return -2;
    }

    // ---- agendas

    private boolean isRow(int row, int n) {
        return in(n, 1, 4) && row >= 0 && String.valueOf(row).length() <= n
            && Arrays.stream(digits(row, n)).allMatch(d -> d <= motions());
    }

    private static int[] digits(int row, int n) {
        String text = String.format("%0" + n + "d", row);
        return text.chars().map(c -> c - '0').toArray();
    }

    /** How all is behind a row; null if a motion may not be put then. */
    private State behindRow(State from, int[] row) {
        State s = from;
        for (int digit : row) {
            s = weeks(s, 1);
            if (digit > 0) {
                if (!mayBePut(s, digit - 1)) {
                    return null;
                }
                s = put(s, digit - 1);
            }
        }
        return s;
    }

    private int worth(State from, int[] row) {
        State s = behindRow(from, row);
        if (s == null) {
            return -1;
        }
        int found = 0;
        for (int k = 0; k < motions(); k++) {
            found += ((s.carried & ~from.carried) >> k & 1) * told.get("motion", k)[2];
        }
        return found;
    }

    private List<Integer> rows(int n) {
        List<Integer> found = new ArrayList<>();
        for (int row = 0; row < Math.pow(10, n); row++) {
            if (isRow(row, n) && behindRow(now, digits(row, n)) != null) {
                found.add(row);
            }
        }
        return found;
    }

    private int bestRow(int n) {
        int found = 0;
        for (int row : rows(n)) {
            found = worth(now, digits(row, n)) > worth(now, digits(found, n)) ? row : found;
        }
        return found;
    }

    private int weeksFor(int k) {
        if ((now.carried >> k & 1) != 0) {
            return 0;
        }
        for (int n = 1; n <= 4; n++) {
            for (int row : rows(n)) {
                if ((behindRow(now, digits(row, n)).carried >> k & 1) != 0) {
                    return n;
                }
            }
        }
        return -2;
    }

    // ---- votes, sides

    private int turns(int m, int needs) {
        int found = 0;
        for (int set = 0; set < 1 << men(); set++) {
            int others = set;
            boolean good = bits(men(), o -> (others >> o & 1) != 0 && (o == m || bald(now, o))) == 0;
            if (good && !bald(now, m) && votes(set) < needs && votes(set | 1 << m) >= needs) {
                found++;
            }
        }
        return found;
    }

    private int mighty(int needs) {
        int[] all = new int[men()];
        for (int m = 0; m < men(); m++) {
            all[m] = turns(m, needs);
        }
        return most(men(), all, 0);
    }

    private int fewest(IntPredicate is) {
        for (int count = 0; count <= men(); count++) {
            int size = count;
            int found = first(1 << men(), set -> Integer.bitCount(set) == size && is.test(set));
            if (found >= 0) {
                return found;
            }
        }
        return -2;
    }

    private int across(int side) {
        return (int) told.lines.get("quarrel").stream()
            .filter(q -> (side >> q[0] & 1) != (side >> q[1] & 1)).count();
    }

    private int parting() {
        int[] all = new int[1 << men()];
        for (int side = 0; side < all.length; side++) {
            all[side] = side % 2 == 0 ? across(side) : -1;
        }
        return most(all.length, all, -1);
    }

    // ---- the round

    private int apart(int c, int other) {
        int up = Math.floorMod(told.get("chair", c)[0] - told.get("chair", other)[0], 100);
        return Math.min(up, Math.floorMod(-up, 100));
    }

    private int way(List<Integer> order) {
        int found = 0;
        for (int i = 0; i < order.size(); i++) {
            found += apart(order.get(i), order.get((i + 1) % order.size()));
        }
        return found;
    }

    private List<Integer> bestOrder() {
        List<List<Integer>> orders = new ArrayList<>();
        grow(List.of(0), orders);
        List<Integer> found = orders.get(0);
        for (List<Integer> order : orders) {
            found = way(order) < way(found) ? order : found;
        }
        return found;
    }

    private void grow(List<Integer> order, List<List<Integer>> orders) {
        if (order.size() == told.count("chair")) {
            orders.add(order);
        }
        for (int c = 0; c < told.count("chair"); c++) {
            if (!order.contains(c)) {
                List<Integer> longer = new ArrayList<>(order);
                longer.add(c);
                grow(longer, orders);
            }
        }
    }

    // ---- the floor

    private List<Integer> fits() {
        List<Integer> swept = new ArrayList<>(List.of(0, 0, 0));
        told.lines.get("heap").forEach(h -> swept.set(h[0], h[1]));
        List<Integer> found = new ArrayList<>();
        for (int set = 0; set < 1 << motions(); set++) {
            State s = first();
            for (int k = 0; k < motions(); k++) {
                s = (set >> k & 1) != 0 ? put(s, k) : s;
            }
            if (s.floor.equals(swept)) {
                found.add(set);
            }
        }
        return found;
    }

    private static int worst(List<Integer> fits, int k) {
        int with = (int) fits.stream().filter(f -> (f >> k & 1) != 0).count();
        return Math.max(with, fits.size() - with);
    }

    private int ask(List<Integer> fits) {
        int[] better = new int[motions()];
        for (int k = 0; k < motions(); k++) {
            better[k] = fits.size() - worst(fits, k);
        }
        return fits.isEmpty() ? -2 : most(motions(), better, -1);
    }

    // ---- a speaker, a strop

    private static int has(int lather, int own, int other) {
        int[][] table = {{2, -lather}, {4, 1}};
        return table[own][other];
    }

    private static List<Integer> rests(int lather) {
        List<Integer> found = new ArrayList<>();
        for (int speaker = 0; speaker < 2; speaker++) {
            for (int strop = 0; strop < 2; strop++) {
                if (has(lather, 1 - speaker, strop) <= has(lather, speaker, strop)
                    && has(lather, 1 - strop, speaker) <= has(lather, strop, speaker)) {
                    found.add(10 * speaker + strop);
                }
            }
        }
        return found;
    }

    // ---- shaves

    private static long[] lowest(BigInteger upper, BigInteger lower) {
        BigInteger common = upper.gcd(lower);
        return new long[] {upper.divide(common).longValueExact(), lower.divide(common).longValueExact()};
    }

    /** Weights of how all may be behind a week, for each set of who is shaved. */
    private BigInteger weighed(java.util.function.ToLongFunction<State> of) {
        long chance = told.get("town", 0)[2];
        BigInteger found = BigInteger.ZERO;
        for (int set = 0; set < 1 << men(); set++) {
            List<Integer> hair = new ArrayList<>(weeks(now, 1).hair);
            BigInteger weight = BigInteger.ONE;
            for (int m = 0; m < men(); m++) {
                boolean shaved = (set >> m & 1) != 0;
                weight = weight.multiply(BigInteger.valueOf(shaved ? chance : 100 - chance));
                hair.set(m, shaved ? 0 : hair.get(m));
            }
            found = found.add(weight.multiply(BigInteger.valueOf(
                of.applyAsLong(new State(hair, now.floor, now.carried, now.weeks)))));
        }
        return found;
    }

    private long[] odds(int k) {
        return lowest(weighed(s -> enough(s, k) ? 1 : 0), BigInteger.valueOf(100).pow(men()));
    }

    private long[] mean(int k) {
        return lowest(weighed(s -> yes(s, k)), BigInteger.valueOf(100).pow(men()));
    }

    /** How all is behind 0, 1, .. n weeks. */
    private List<State> shaven(int seed, int n) {
        List<State> found = new ArrayList<>(List.of(now));
        int drawn = seed;
        for (int week = 1; week <= n; week++) {
            State s = weeks(found.get(week - 1), 1);
            List<Integer> hair = new ArrayList<>(s.hair);
            for (int m = 0; m < men(); m++) {
                drawn = (75 * drawn + 74) % 65537;
                if (drawn % 100 < told.get("town", 0)[2]) {
                    hair.set(m, 0);
                }
            }
            found.add(new State(hair, s.floor, s.carried, s.weeks));
        }
        return found;
    }
}
