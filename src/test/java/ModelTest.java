import java.util.ArrayList;
import java.util.List;
import java.util.NoSuchElementException;
import java.util.Random;

/** Random runs of at most 512 calls on both the program and the plain model: every answer and TROUBLE is the same. */
public final class ModelTest {
    private static final int RUNS = 400;
    /** Of so many runs one is about texts and their faults, the others about what stands. */
    private static final int TEXT_RUNS = 3;
    private static final String[] CALLS = {
        "man:man:8", "motion:motion:9", "floor:4", "bald", "longest", "ready", "quorum", "behind:motion",
        "depth:motion", "longIn:man:weeks", "yesIn:motion:weeks", "carryIn:motion", "hairyIn", "soonest",
        "worthOf:row:5", "bestRow:5", "bestWorth:5", "bestCarried:5", "weeksFor:motion", "swings:man:needs",
        "mighty:needs", "outvoted:needs", "bench:needs", "parting", "left", "peace", "apart:chair:chair", "round",
        "roundAt:chair", "fits", "fitAt:8", "could", "surely", "ask", "askLeaves", "talk:lather:bit:bit:bit",
        "rests:lather", "rest:lather", "odds:motion:bit", "mean:motion:bit", "shaves:man:seed:weeks",
        "carries:motion:seed:weeks", "put:motion", "put:motion", "put:motion", "week", "week", "shave:man", "undo",
        "image", "back:3", "led:3", "size:15", "fault", "where", "trouble", "town:wild", "feed"
    };

    private final Random random;
    private final Check check;
    private BarberMinutes x;
    private PlainModel y;
    private int called;

    private ModelTest(Random random, Check check) {
        this.random = random;
        this.check = check;
    }

    public static void main(String[] args) {
        Check check = new Check("model");
        for (int run = 0; run < RUNS && check.wrong() == 0; run++) {
            new ModelTest(new Random(run), check).run(run);
        }
        check.end();
    }

    private void run(int run) {
        x = new BarberMinutes();
        y = new PlainModel();
        while (called < 245 && check.wrong() == 0) {
            if (called == 0 || random.nextInt(run % TEXT_RUNS == 0 ? 2 : 90) == 0) {
                town(run);
            }
            String[] call = CALLS[random.nextInt(CALLS.length)].split(":");
            int[] a = new int[call[0].equals("feed") ? 5 : call.length - 1];
            for (int i = 0; i < a.length; i++) {
                a[i] = call[0].equals("feed") ? 0x20202020 : argument(call[i + 1]);
            }
            compare(run, call[0], a);
        }
    }

    private void town(int run) {
        boolean bad = random.nextInt(run % TEXT_RUNS == 0 ? 8 : 3) > 0 && called > 0 || random.nextInt(9) == 0;
        String text = bad ? spoilt(someTown()) : someTown();
        text = text.length() > 860 ? text.substring(0, 860) : text;
        for (int at = 0; at < text.length(); at += 20) {
            int[] a = new int[5];
            for (int i = at; i < at + 20; i++) {
                a[(i - at) / 4] = a[(i - at) / 4] << 8 | (i < text.length() ? text.charAt(i) : ' ');
            }
            compare(run, "feed", a);
        }
        compare(run, "town", random.nextInt(6) == 0 ? x.size(13) : text.length());
        compare(run, "fault");
        compare(run, "where");
    }

    private int argument(String sort) {
        if (random.nextInt(12) == 0) {
            return new int[] {-1, Integer.MIN_VALUE, Integer.MAX_VALUE, 7, 61, 65537, 55, 10}[random.nextInt(8)];
        }
        return switch (sort) {
            case "man" -> random.nextInt(6);
            case "motion", "chair" -> random.nextInt(5);
            case "weeks" -> random.nextInt(random.nextBoolean() ? 8 : 61);
            case "needs" -> random.nextInt(random.nextBoolean() ? 15 : 55);
            case "lather" -> random.nextInt(10);
            case "bit" -> random.nextInt(2);
            case "seed" -> random.nextInt(65537);
            case "row" -> row();
            case "wild" -> random.nextInt(100) - 50;
            default -> random.nextInt(Integer.parseInt(sort));
        };
    }

    private int row() {
        int row = 0;
        for (int i = random.nextInt(4); i >= 0; i--) {
            row = row * 10 + random.nextInt(4);
        }
        return row;
    }

    private void compare(int run, String name, int... a) {
        called++;
        String what = "run " + run + " call " + called + " " + name + List.of(boxed(a));
        check.same(what, ofProgram(name, a), ofModel(name, a));
        check.same(what + " trouble", x.trouble(), y.trouble);
    }

    private static Integer[] boxed(int[] a) {
        Integer[] found = new Integer[a.length];
        for (int i = 0; i < a.length; i++) {
            found[i] = a[i];
        }
        return found;
    }

    private Object ofModel(String name, int[] a) {
        try {
            return switch (name) {
                case "feed" -> (long) y.feed(a);
                case "town" -> (long) y.town(a[0]);
                case "fault" -> (long) y.fault;
                case "where" -> (long) y.where();
                case "led" -> (long) y.led(a[0]);
                case "size" -> (long) y.size(a[0]);
                case "trouble" -> (long) y.trouble;
                case "talk", "odds", "mean" -> y.call(name, bitsOnly(a));
                default -> y.call(name, a);
            };
        } catch (NoSuchElementException e) {
            return "none such";
        }
    }

    /** Where a call takes a boolean, the argument is 1 or 0. */
    private static int[] bitsOnly(int[] a) {
        int[] found = a.clone();
        for (int i = 1; i < a.length; i++) {
            found[i] = a[i] == 1 ? 1 : 0;
        }
        return found;
    }

    private Object ofProgram(String name, int[] a) {
        Class<?>[] types = new Class<?>[a.length];
        Object[] values = new Object[a.length];
        List<String> withBits = List.of("talk", "odds", "mean");
        for (int i = 0; i < a.length; i++) {
            boolean bit = i > 0 && withBits.contains(name);
            types[i] = bit ? boolean.class : int.class;
            values[i] = bit ? (Object) (a[i] == 1) : (Object) a[i];
        }
        try {
            Object answer = BarberMinutes.class.getMethod(name, types).invoke(x, values);
            return answer instanceof Boolean b ? (Object) (b ? 1L : 0L) : (Object) ((Number) answer).longValue();
        } catch (java.lang.reflect.InvocationTargetException e) {
            return e.getCause() instanceof NoSuchElementException ? "none such" : e.getCause().toString();
        } catch (ReflectiveOperationException e) {
            return e.toString();
        }
    }

    // ---- towns

    private int upTo(int most) {
        return random.nextInt(most + 1);
    }

    private String someTown() {
        List<String> lines = new ArrayList<>();
        lines.add("town grows " + upTo(9) + " bald " + upTo(random.nextBoolean() ? 20 : 3) + " shave " + upTo(100));
        int men = 1 + upTo(5);
        int motions = upTo(5);
        int chairs = upTo(5);
        String[] colours = {"fair", "dark", "grey"};
        for (int m = 0; m < men; m++) {
            lines.add("man m" + (char) ('a' + m) + " " + colours[upTo(2)] + " long "
                + upTo(random.nextBoolean() ? 99 : 20) + " votes " + upTo(9));
        }
        for (int k = 0; k < motions; k++) {
            lines.add("motion k" + (char) ('a' + k) + " cuts " + (1 + upTo(random.nextBoolean() ? 29 : 5))
                + " needs " + upTo(random.nextInt(4) == 0 ? 54 : 12) + " worth " + upTo(99));
        }
        for (int c = 0; c < chairs; c++) {
            lines.add("chair c" + (char) ('a' + c) + " at " + upTo(99));
        }
        pairs(lines, "against m k", men, motions, 9);
        pairs(lines, "amends k k", motions, motions, 6);
        pairs(lines, "quarrel m m", men, men, 9);
        heaps(lines, motions, colours);
        return String.join(random.nextBoolean() ? ";" : " ; ", lines);
    }

    /** Some of all pairs, those of one sort with the greater number ahead. */
    private void pairs(List<String> lines, String form, int count, int other, int room) {
        String[] parts = form.split(" ");
        int some = 1 + upTo(3);
        int told = 0;
        for (int a = 0; a < count; a++) {
            for (int b = 0; b < (parts[1].equals(parts[2]) ? a : other); b++) {
                if (told < room && random.nextInt(4) < some) {
                    lines.add(parts[0] + " " + parts[1] + (char) ('a' + a) + " " + parts[2] + (char) ('a' + b));
                    told++;
                }
            }
        }
    }

    /** Heaps as they fall if some motions are put, so that there are fits. */
    private void heaps(List<String> lines, int motions, String[] colours) {
        BarberMinutes t = new BarberMinutes();
        List<String> free = new ArrayList<>(lines);
        free.removeIf(line -> line.startsWith("amends") || line.startsWith("chair"));
        if (Tape.town(t, String.join(";", free)) < 1) {
            return;
        }
        for (int k = 0; k < motions; k++) {
            if (random.nextBoolean()) {
                t.put(k);
            }
        }
        boolean all = random.nextInt(4) != 0;
        for (int c = 0; c < 3; c++) {
            if ((all && t.floor(c) > 0) || random.nextInt(4) == 0) {
                lines.add("heap " + colours[c] + " " + t.floor(c));
            }
        }
    }

    /** One change or more, mostly a token for another one. */
    private String spoilt(String text) {
        String[] words = {"town", "man", "motion", "against", "amends", "quarrel", "chair", "heap", "grows", "fair",
            "grey", "long", "votes", "at", "ma", "mb", "mf", "ka", "kb", "ca", "zz", "0", "9", "10", "100", "999",
            "1000", ";", "abcdefgh", "abcdefghi", "A", "-1", "\t", "", "; ;", ((char) 233) + ""};
        List<String> tokens = new ArrayList<>(List.of(text.replace(";", " ; ").trim().split(" +")));
        for (int i = upTo(1); i >= 0; i--) {
            int at = random.nextInt(tokens.size());
            switch (upTo(6)) {
                case 0 -> tokens.set(at, words[random.nextInt(words.length)]);
                case 3, 4, 5 -> likeToken(tokens);
                case 1 -> tokens.add(at, words[random.nextInt(words.length)]);
                case 2 -> tokens.add(at, tokens.get(random.nextInt(tokens.size())));
                default -> moveLine(tokens);
            }
        }
        return String.join(" ", tokens).replace(" ; ", ";");
    }

    /** A token for another one that could stand there too: names, wholes and colours are mixed up. */
    private void likeToken(List<String> tokens) {
        int at = random.nextInt(tokens.size());
        for (int i = 0; i < 50; i++) {
            String other = tokens.get(random.nextInt(tokens.size()));
            boolean like = other.length() == tokens.get(at).length() || isWhole(other);
            if (like && isWhole(other) == isWhole(tokens.get(at))) {
                tokens.set(at, other);
                return;
            }
        }
    }

    private static boolean isWhole(String token) {
        return !token.isEmpty() && Character.isDigit(token.charAt(0));
    }

    /** A line once more, or at another place. */
    private void moveLine(List<String> tokens) {
        List<String> lines = new ArrayList<>(List.of(String.join(" ", tokens).split(" ?; ?")));
        String line = lines.get(random.nextInt(lines.size()));
        if (random.nextBoolean()) {
            lines.remove(line);
        }
        lines.add(random.nextInt(lines.size() + 1), line);
        tokens.clear();
        tokens.addAll(List.of(String.join(" ; ", lines).split(" ")));
    }
}
