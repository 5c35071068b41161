import java.util.ArrayList;
import java.util.List;

/** Each sentence about THE TAPE, TOKENS, LINES and FAULTS that names an edge: the last that is taken, the first refused. */
public final class TextEdgesTest extends Asking {
    private static final String[] RESERVED = {"town", "man", "motion", "against", "amends", "quarrel", "chair", "heap"};
    private static final String TOWN = "town grows 0 bald 0 shave 0";
    /** Men a, b, motions p, q (q behind p), a chair c: names to use in a line more. */
    private static final String NAMES = SMALL + ";man b dark long 0 votes 0;motion p cuts 1 needs 0 worth 0;"
        + "motion q cuts 1 needs 0 worth 0;chair c at 0";
    private static final int BLANKS = 0x20202020;

    private TextEdgesTest() {
        super("text edges");
    }

    public static void main(String[] args) {
        TextEdgesTest test = new TextEdgesTest();
        test.tapeIsFull();
        test.lastByteCounts();
        test.bytesOfNumbers();
        test.numbersOfBytes();
        test.emptyTape();
        test.signs();
        test.words();
        test.wholes();
        test.blanks();
        test.linesAndSemicolons();
        test.everyEnd();
        test.everyOtherToken();
        test.bounds();
        test.colours();
        test.reservedWords();
        test.freeWords();
        test.untoldNames();
        test.otherSorts();
        test.toldAgain();
        test.pairsOnce();
        test.heapsOnce();
        test.tooMany();
        test.lastName();
        test.namesNearlyAlike();
        test.namesOfTwoLetters();
        test.manyAheadOfOthers();
        test.aheadOfTown();
        test.secondTown();
        test.noMan();
        test.late();
        test.firstFromTheLeft();
        test.leastOfOnePlace();
        test.refusedTownStays();
        test.newTownIsFresh();
        test.latestFault();
        test.placeOfTheLatest();
        test.end();
    }

    private static String blanks(int count) {
        return " ".repeat(count);
    }

    // ---- 2, 3: the tape

    private void tapeIsFull() {
        BarberMinutes x = new BarberMinutes();
        for (int i = 1; i <= 44; i++) {
            x.feed(BLANKS, BLANKS, BLANKS, BLANKS, BLANKS);
        }
        due("2 short of full", x.size(13), 880);
        due("2 the last that comes", x.feed(BLANKS, BLANKS, BLANKS, BLANKS, BLANKS), 900);
        due("2 the first that does not", x.feed(BLANKS, BLANKS, BLANKS, BLANKS, BLANKS), -1);
        due("2 none comes", x.size(13), 900);
        due("2 nor does the next", x.feed(BLANKS, BLANKS, BLANKS, BLANKS, BLANKS), -1);
        due("2 feed is no call with a number", x.trouble(), 0);
        refused("3 the tape is read whole", x, x.town(900), 4);
        due("2 there is room again", x.feed(BLANKS, BLANKS, BLANKS, BLANKS, BLANKS), 20);
    }

    private void lastByteCounts() {
        String end = ";heap grey 7";
        String text = SMALL + blanks(900 - SMALL.length() - end.length()) + end;
        BarberMinutes x = new BarberMinutes();
        due("2 900 bytes", Tape.feed(x, text), 900);
        due("2 no more", x.feed(0, 0, 0, 0, 0), -1);
        granted("3 all 900", x, x.town(900), 1);
        due("3 the heap at its end", x.size(9), 1);
        due("3 the tape is empty then", x.size(13), 0);
        Tape.feed(x, text);
        refused("3 without the last one", x, x.town(899), 4);
        due("4 the heap lacks its WHOLE", x.fault(), 1);
        due("5 at the end", x.where(), 899);
    }

    private void bytesOfNumbers() {
        BarberMinutes x = new BarberMinutes();
        // "town", " gro", "ws 0", " bal", "d 0 ": of each number the highest first
        due("2 twenty", x.feed(0x746f776e, 0x2067726f, 0x77732030, 0x2062616c, 0x64203020), 20);
        due("2 forty", x.feed(0x73686176, 0x6520303b, 0x6d616e20, 0x61206461, 0x726b206c), 40);
        due("2 sixty", x.feed(0x6f6e6720, 0x3020766f, 0x74657320, 0x30202020, 0x20202020), 60);
        granted("3 the order of the bytes", x, x.town(60), 1);
        // the highest byte 0xff of a number is no small letter, and stays one byte
        x.feed(0x746f776e, 0x2067726f, 0x77732030, 0xff62616c, 0x64203020);
        refused("2 a byte above 127", x, x.town(20), 4);
        due("4 it begins no TOKEN", x.fault(), 1);
        due("5 at it", x.where(), 12);
    }

    private void numbersOfBytes() {
        int[] wrong = {61, 81, 900, 901, -1, Integer.MIN_VALUE, Integer.MAX_VALUE};
        for (int n : wrong) {
            BarberMinutes x = new BarberMinutes();
            due("3 sixty bytes", Tape.feed(x, SMALL), 60);
            refused("3 town of " + n + " of 60", x, x.town(n), 2);
            due("3 the tape stays", x.size(13), 60);
            due("4 no fault by 2", x.fault(), 0);
            due("5 no place by 2", x.where(), -1);
            granted("3 all of the 60", x, x.town(60), 1);
        }
        BarberMinutes y = new BarberMinutes();
        Tape.feed(y, SMALL + ";man b fair long 0 votes 0");
        granted("3 the first bytes alone", y, y.town(SMALL.length()), 1);
        due("3 the rest is gone too", y.size(13), 0);
        refused("3 nothing is left", y, y.town(1), 2);
    }

    private void emptyTape() {
        BarberMinutes x = new BarberMinutes();
        refused("3 one byte of none", x, x.town(1), 2);
        refused("3 no bytes", x, x.town(0), 4);
        due("4 no bytes have no form", x.fault(), 1);
        due("5 the end of no bytes", x.where(), 0);
        refused("3 below", x, x.town(-1), 2);
        Tape.feed(x, SMALL);
        refused("3 no bytes of sixty", x, x.town(0), 4);
        due("3 the tape is empty then", x.size(13), 0);
    }

    // ---- tokens

    private void signs() {
        char[] none = {0, 9, 10, 13, 31, 33, '-', '/', ':', '<', 'A', 'Z', '`', '{', 127, 128, 160, 233, 255};
        for (char sign : none) {
            fault(sign + SMALL, 1, 0);
            fault(" " + sign + " " + SMALL, 1, 1);
            fault(TOWN + sign, 1, TOWN.length());
            fault(SMALL + " " + sign, 1, SMALL.length() + 1);
            fault(TOWN + ";man a" + sign + " fair long 0 votes 0", 1, TOWN.length() + 6);
            fault("town grows 0" + sign + " bald 0 shave 0", 1, 12);
        }
        stands(TOWN + ";man az fair long 0 votes 9", 1);
        stands(TOWN + ";man za fair long 90 votes 0", 1);
    }

    private void words() {
        stands(TOWN + ";man abcdefgh fair long 0 votes 0;man z fair long 0 votes 0", 2);
        stands(TOWN + ";man abcdefgh fair long 0 votes 0;man abcdefgi fair long 0 votes 0", 2);
        fault(TOWN + ";man abcdefghi fair long 0 votes 0", 1, TOWN.length() + 5);
        fault(TOWN + ";man abcdefghabcdefgh", 1, TOWN.length() + 5);
        fault("towntownt", 1, 0);
        fault("towngrows 0", 1, 0);
        fault(NAMES + ";against abcdefghi p", 1, NAMES.length() + 9);
        // eight letters make a WORD, of a name that isn't told
        fault(NAMES + ";against abcdefgh p", 2, NAMES.length() + 9);
        fault(NAMES + ";abcdefghi", 1, NAMES.length() + 1);
    }

    private void wholes() {
        stands("town grows 9 bald 20 shave 100;man a fair long 0 votes 0", 1);
        stands("town grows 09 bald 020 shave 00;man a fair long 099 votes 009", 1);
        fault("town grows 0009", 1, 11);
        fault("town grows 0000", 1, 11);
        fault("town grows 009 bald 0020", 1, 20);
        fault("town grows 9 9", 1, 13);
        fault("town grows 0 bald 0 shave 1000", 1, 26);
        fault(SMALL + ";heap fair 1000", 1, SMALL.length() + 11);
        fault(SMALL + ";heap fair 99999999999999999999", 1, SMALL.length() + 11);
        stands(SMALL + ";heap fair 999", 1);
        stands(SMALL + ";heap fair 000", 1);
    }

    private void blanks() {
        stands(blanks(20) + SMALL.replace(" ", "   ").replace(";", " ;  ") + blanks(20), 1);
        stands("town grows 0bald 0shave 0;man a fair long 0votes 0;motion p cuts 1needs 0worth 0", 1);
        fault("town grows0", 1, 11);
        fault("to wn", 1, 0);
        fault(TOWN + ";man a fair long 0 votes 1 0", 1, TOWN.length() + 27);
        fault("town grows 0 bald 0 shave 0;manafair long", 1, 28);
    }

    // ---- lines

    private void linesAndSemicolons() {
        fault(";" + SMALL, 1, 0);
        fault(SMALL + ";", 1, SMALL.length() + 1);
        fault(SMALL + ";  ", 1, SMALL.length() + 3);
        fault(SMALL + ";;heap fair 0", 1, SMALL.length() + 1);
        fault(SMALL + "; ;heap fair 0", 1, SMALL.length() + 2);
        fault(SMALL + " heap fair 0", 1, SMALL.length() + 1);
        stands(SMALL + ";heap fair 0", 1);
        stands(SMALL + " ; heap fair 0", 1);
    }

    /** Tokens of a text with a line of every sort; each is one sign or stands between blanks. */
    private static List<String> sample() {
        return new ArrayList<>(List.of((NAMES + ";against a p;amends q p;quarrel a b;heap dark 3")
            .replace(";", " ; ").split(" ")));
    }

    /** Behind each token the text may end at a LINE's end alone; there must be a man then. */
    private void everyEnd() {
        List<String> tokens = sample();
        for (int count = 0; count < tokens.size(); count++) {
            String text = String.join(" ", tokens.subList(0, count));
            boolean line = count > 0 && tokens.get(count).equals(";");
            int men = (" " + text).split(" man ", -1).length - 1;
            if (line && men > 0) {
                stands(text, men);
            } else {
                fault(text, line ? 6 : 1, text.length());
                fault(text + "  ", line ? 6 : 1, text.length() + 2);
            }
        }
    }

    /** In place of each token one of another kind: no TOWN goes on with it. */
    private void everyOtherToken() {
        List<String> tokens = sample();
        for (int i = 0; i < tokens.size(); i++) {
            int place = String.join(" ", tokens.subList(0, i)).length() + (i > 0 ? 1 : 0);
            String old = tokens.get(i);
            boolean whole = Character.isDigit(old.charAt(0));
            boolean name = old.length() == 1 && !whole && !old.equals(";");
            String[] others = old.equals(";") ? new String[] {"x", "7", "man"}
                : whole ? new String[] {"x", ";", "town"}
                : name ? new String[] {"7", ";", "town"} : new String[] {"x", "7", ";"};
            for (String other : others) {
                tokens.set(i, other);
                fault(String.join(" ", tokens), 1, place);
            }
            tokens.set(i, old);
        }
    }

    // ---- 4: bounds

    private void bound(String ahead, String behind, int least, int most) {
        stands(ahead + least + behind, 1);
        stands(ahead + most + behind, 1);
        if (least > 0) {
            fault(ahead + (least - 1) + behind, 4, ahead.length());
        }
        if (most < 999) {
            fault(ahead + (most + 1) + behind, 4, ahead.length());
            fault(ahead + 999 + behind, 4, ahead.length());
            fault(ahead + (most + 1), 4, ahead.length());
        }
    }

    private void bounds() {
        String man = ";man z fair long 0 votes 0";
        bound("town grows ", " bald 0 shave 0" + man, 0, 9);
        bound("town grows 0 bald ", " shave 0" + man, 0, 20);
        bound("town grows 0 bald 0 shave ", man, 0, 100);
        bound(TOWN + ";man z fair long ", " votes 0", 0, 99);
        bound(TOWN + ";man z fair long 0 votes ", "", 0, 9);
        bound(SMALL + ";motion z cuts ", " needs 0 worth 0", 1, 30);
        bound(SMALL + ";motion z cuts 1 needs ", " worth 0", 0, 54);
        bound(SMALL + ";motion z cuts 1 needs 0 worth ", "", 0, 99);
        bound(SMALL + ";chair z at ", "", 0, 99);
        bound(SMALL + ";heap grey ", "", 0, 999);
        BarberMinutes x = Tape.of("town grows 9 bald 20 shave 100;man z grey long 99 votes 9;"
            + "motion k cuts 30 needs 54 worth 99");
        due("55 grows 9", x.size(0), 9);
        due("55 bald 20", x.size(1), 20);
        due("55 shave 100", x.size(2), 100);
        due("6 long 99", x.man(0, 1), 99);
        due("6 votes 9", x.man(0, 2), 9);
        due("7 cuts 30", x.motion(0, 0), 30);
        due("7 needs 54", x.motion(0, 1), 54);
        due("7 worth 99", x.motion(0, 2), 99);
    }

    private void colours() {
        String[] told = {"fair", "dark", "grey"};
        for (int c = 0; c < 3; c++) {
            BarberMinutes x = Tape.of(TOWN + ";man z " + told[c] + " long 1 votes 0;heap " + told[c] + " 1");
            due("6 " + told[c], x.man(0, 0), c);
            due("55 a heap of " + told[c], x.size(9), 1);
        }
        for (String other : new String[] {"red", "fai", "fairr", "gray", "z", "man", "Fair", "1", ";"}) {
            fault(TOWN + ";man z " + other, 1, TOWN.length() + 7);
            fault(SMALL + ";heap " + other, 1, SMALL.length() + 6);
        }
    }

    // ---- names

    private void reservedWords() {
        for (String word : RESERVED) {
            fault(TOWN + ";man " + word + " fair long 0 votes 0", 1, TOWN.length() + 5);
            fault(SMALL + ";motion " + word + " cuts 1 needs 0 worth 0", 1, SMALL.length() + 8);
            fault(SMALL + ";chair " + word + " at 0", 1, SMALL.length() + 7);
            fault(NAMES + ";against " + word + " p", 1, NAMES.length() + 9);
            fault(NAMES + ";against a " + word, 1, NAMES.length() + 11);
            fault(NAMES + ";amends " + word + " p", 1, NAMES.length() + 8);
            fault(NAMES + ";amends q " + word, 1, NAMES.length() + 10);
            fault(NAMES + ";quarrel " + word + " a", 1, NAMES.length() + 9);
            fault(NAMES + ";quarrel b " + word, 1, NAMES.length() + 11);
        }
    }

    private void freeWords() {
        String[] free = {"grows", "bald", "shave", "fair", "dark", "grey", "long", "votes", "cuts", "needs", "worth",
            "at", "towns", "mans", "tow", "ma", "heaps"};
        for (String word : free) {
            stands(TOWN + ";man " + word + " fair long 0 votes 0;motion p cuts 1 needs 0 worth 0;against " + word + " p", 1);
            stands(SMALL + ";motion " + word + " cuts 1 needs 0 worth 0;against a " + word, 1);
            stands(SMALL + ";chair " + word + " at 0", 1);
        }
    }

    /** Each told ahead of its use: one that is told behind it isn't told yet. */
    private void untoldNames() {
        fault(NAMES + ";against z p", 2, NAMES.length() + 9);
        fault(NAMES + ";against a z", 2, NAMES.length() + 11);
        fault(NAMES + ";amends z p", 2, NAMES.length() + 8);
        fault(NAMES + ";amends q z", 2, NAMES.length() + 10);
        fault(NAMES + ";quarrel z a", 2, NAMES.length() + 9);
        fault(NAMES + ";quarrel a z", 2, NAMES.length() + 11);
        fault(NAMES + ";against z p;man z fair long 0 votes 0", 2, NAMES.length() + 9);
        fault(NAMES + ";against a z;motion z cuts 1 needs 0 worth 0", 2, NAMES.length() + 11);
        stands(NAMES + ";man z fair long 0 votes 0;against z p", 3);
        stands(NAMES + ";motion z cuts 1 needs 0 worth 0;against a z;amends z q", 2);
        fault(NAMES + ";against aa p", 2, NAMES.length() + 9);
        // names of an earlier town aren't told any more
        BarberMinutes x = Tape.of(NAMES);
        refused("3 names of the town before", x, Tape.town(x, SMALL + ";quarrel a b"), 4);
        due("4 b isn't told", x.fault(), 2);
        due("5 at b", x.where(), SMALL.length() + 11);
    }

    private void otherSorts() {
        for (String other : new String[] {"p", "c"}) {
            fault(NAMES + ";against " + other + " p", 2, NAMES.length() + 9);
            fault(NAMES + ";quarrel " + other + " a", 2, NAMES.length() + 9);
            fault(NAMES + ";quarrel a " + other, 2, NAMES.length() + 11);
        }
        for (String other : new String[] {"a", "c"}) {
            fault(NAMES + ";against a " + other, 2, NAMES.length() + 11);
            fault(NAMES + ";amends " + other + " p", 2, NAMES.length() + 8);
            fault(NAMES + ";amends q " + other, 2, NAMES.length() + 10);
        }
    }

    // ---- 3: again

    private void toldAgain() {
        for (String name : new String[] {"a", "b", "p", "q", "c"}) {
            fault(NAMES + ";man " + name + " fair long 0 votes 0", 3, NAMES.length() + 5);
            fault(NAMES + ";motion " + name + " cuts 1 needs 0 worth 0", 3, NAMES.length() + 8);
            fault(NAMES + ";chair " + name + " at 0", 3, NAMES.length() + 7);
        }
        stands(NAMES + ";man aa fair long 0 votes 0;motion pp cuts 1 needs 0 worth 0;chair cc at 0", 3);
    }

    private void pairsOnce() {
        stands(NAMES + ";against a p;against a q;against b p;against b q", 2);
        fault(NAMES + ";against a p;against a p", 3, NAMES.length() + 23);
        fault(NAMES + ";against a p;against b p;against a p", 3, NAMES.length() + 35);
        fault(NAMES + ";amends q p;amends q p", 3, NAMES.length() + 21);
        String three = NAMES + ";motion r cuts 1 needs 0 worth 0";
        stands(three + ";amends q p;amends r p;amends r q", 2);
        fault(three + ";amends r p;amends r q;amends r p", 3, three.length() + 32);
        fault(NAMES + ";quarrel a a", 3, NAMES.length() + 11);
        fault(NAMES + ";quarrel b b", 3, NAMES.length() + 11);
        fault(NAMES + ";quarrel a b;quarrel a b", 3, NAMES.length() + 23);
        fault(NAMES + ";quarrel a b;quarrel b a", 3, NAMES.length() + 23);
        fault(NAMES + ";quarrel b a;quarrel a b", 3, NAMES.length() + 23);
        stands(NAMES + ";man d fair long 0 votes 0;quarrel b a;quarrel a d;quarrel d b", 3);
    }

    /** Three colours, each once, are all the room that heaps have. */
    private void heapsOnce() {
        String all = SMALL + ";heap fair 1;heap dark 2;heap grey 3";
        stands(all, 1);
        for (String colour : new String[] {"fair", "dark", "grey"}) {
            fault(SMALL + ";heap " + colour + " 0;heap " + colour + " 1", 3, SMALL.length() + 18);
            fault(all + ";heap " + colour + " 1", 3, all.length() + 6);
        }
        fault(all + ";heap red 1", 1, all.length() + 6);
    }

    // ---- 5: many

    private static String some(String form, String names, int count) {
        StringBuilder text = new StringBuilder();
        for (int i = 0; i < count; i++) {
            text.append(';').append(form.replace("*", names + (char) ('a' + i)));
        }
        return text.toString();
    }

    private void room(String ahead, List<String> lines, int room) {
        due("I lines to try", lines.size(), room + 1);
        String last = ahead + ";" + String.join(";", lines.subList(0, room));
        int men = (last + ";").split(";man ").length - 1;
        stands(last, men);
        fault(last + "; " + lines.get(room), 5, last.length() + 2);
        fault(last + ";" + lines.get(room).split(" ")[0], 5, last.length() + 1);
    }

    private static List<String> lines(String text) {
        return List.of(text.substring(1).split(";"));
    }

    private void tooMany() {
        room(TOWN, lines(some("man * fair long 0 votes 0", "m", 7)), 6);
        room(SMALL, lines(some("motion * cuts 1 needs 0 worth 0", "k", 6)), 5);
        room(SMALL, lines(some("chair * at 0", "c", 6)), 5);
        String full = TOWN + some("man * fair long 0 votes 0", "m", 6) + some("motion * cuts 1 needs 0 worth 0", "k", 5);
        List<String> against = new ArrayList<>();
        List<String> amends = new ArrayList<>();
        List<String> quarrels = new ArrayList<>();
        for (char i = 'a'; i < 'g'; i++) {
            for (char j = 'a'; j < 'f'; j++) {
                against.add("against m" + i + " k" + j);
                if (j < i) {
                    quarrels.add("quarrel m" + i + " m" + j);
                }
                if (j < i && i < 'f') {
                    amends.add("amends k" + i + " k" + j);
                }
            }
        }
        room(full, against.subList(0, 10), 9);
        room(full, amends.subList(0, 7), 6);
        room(full, quarrels.subList(0, 10), 9);
        // each sort has its own room: all of them full stand together, in a text of 900 bytes at most
        String all = TOWN + some("man * fair long 0 votes 0", "", 6) + some("motion * cuts 1 needs 0 worth 0", "k", 5)
            + some("chair * at 0", "c", 5) + ";" + String.join(";", against.subList(0, 9)).replace(" m", " ")
            + ";" + String.join(";", amends.subList(0, 6))
            + ";" + String.join(";", quarrels.subList(0, 9)).replace(" m", " ") + ";heap fair 1;heap dark 1;heap grey 1";
        stands(all, 6);
        BarberMinutes x = Tape.of(all);
        int[] sizes = {6, 5, 9, 6, 9, 5, 3};
        for (int i = 0; i < sizes.length; i++) {
            due("55 all rooms full, size " + (3 + i), x.size(3 + i), sizes[i]);
        }
    }

    /** There is room for the names of all men, motions and chairs: the last one told is known too. */
    private void lastName() {
        String men = some("man * fair long 0 votes 0", "m", 6);
        String others = some("motion * cuts 1 needs 0 worth 0", "k", 5) + some("chair * at 0", "c", 5);
        stands(TOWN + others + men + ";quarrel mf ma;against mf ka", 6);
        fault(TOWN + others + men + ";quarrel mf mg", 2, (TOWN + others + men).length() + 12);
        String five = TOWN + others + some("man * fair long 0 votes 0", "m", 5);
        fault(five + ";man me fair long 0 votes 0", 3, five.length() + 5);
        fault(five + ";man ka fair long 0 votes 0", 3, five.length() + 5);
    }

    /** Names that differ by one letter, at whatever place, or by one letter more ahead or behind, are two names. */
    private void namesNearlyAlike() {
        for (int length = 1; length <= 8; length++) {
            for (char letter = 'a'; letter <= 'z'; letter++) {
                String name = ("" + letter).repeat(length);
                for (int at = 0; at < length; at++) {
                    char other = letter == 'z' ? 'a' : (char) (letter + 1);
                    twoNames(name, name.substring(0, at) + other + name.substring(at + 1));
                }
                for (char more = 'a'; more <= 'z' && length < 8; more++) {
                    twoNames(name, more + name);
                    twoNames(name, name + more);
                }
            }
        }
    }

    /** A letter further on doesn't make up for one ahead of it. */
    private void namesOfTwoLetters() {
        for (char first = 'a'; first < 'z'; first++) {
            for (char second = 'a'; second <= 'z'; second++) {
                for (char other = 'a'; other <= 'z'; other++) {
                    twoNames("" + first + second, "" + (char) (first + 1) + other);
                }
            }
        }
    }

    private void twoNames(String name, String other) {
        String man = TOWN + ";man " + name + " fair long 0 votes 0";
        stands(man + ";man " + other + " dark long 0 votes 0;quarrel " + name + " " + other, 2);
        fault(man + ";man " + name, 3, man.length() + 5);
    }

    /** A LINE too many is met at its first WORD, ahead of all that is wrong further on in it. */
    private void manyAheadOfOthers() {
        String men = TOWN + some("man * fair long 0 votes 0", "m", 6);
        fault(men + ";man ma", 5, men.length() + 1);
        fault(men + ";man 7", 5, men.length() + 1);
        fault(men + ";man", 5, men.length() + 1);
        fault(men + ";mans", 1, men.length() + 1);
        String chairs = SMALL + some("chair * at 0", "c", 5);
        fault(chairs + ";chair z at 100", 5, chairs.length() + 1);
        stands(chairs + ";man z fair long 0 votes 0", 2);
    }

    // ---- 6: lacks

    private void aheadOfTown() {
        String[] lines = {"man a fair long 0 votes 0", "motion p cuts 1 needs 0 worth 0", "against a p", "amends q p",
            "quarrel a b", "chair c at 0", "heap fair 0"};
        for (String line : lines) {
            fault(line, 6, 0);
            fault("  " + line + ";" + SMALL, 6, 2);
            fault(line.split(" ")[0], 6, 0);
        }
        fault("x;" + SMALL, 1, 0);
        fault("grows", 1, 0);
    }

    private void secondTown() {
        fault(TOWN + ";" + TOWN, 3, TOWN.length() + 1);
        fault(TOWN + ";town", 3, TOWN.length() + 1);
        fault(SMALL + "; town grows 99", 3, SMALL.length() + 2);
        fault(NAMES + ";town", 3, NAMES.length() + 1);
    }

    private void noMan() {
        fault(TOWN, 6, TOWN.length());
        fault(TOWN + "   ", 6, TOWN.length() + 3);
        fault(TOWN + ";motion p cuts 1 needs 0 worth 0;chair c at 0;heap fair 0", 6, TOWN.length() + 57);
        stands(TOWN + ";motion p cuts 1 needs 0 worth 0;chair c at 0;heap fair 0;man a fair long 0 votes 0", 1);
    }

    // ---- 7: late

    private void late() {
        fault(NAMES + ";amends p q", 7, NAMES.length() + 10);
        fault(NAMES + ";amends p p", 7, NAMES.length() + 10);
        fault(NAMES + ";amends q q", 7, NAMES.length() + 10);
        stands(NAMES + ";amends q p", 2);
        fault(NAMES + ";amends q p;amends p q", 7, NAMES.length() + 21);
    }

    // ---- which of the faults

    private void firstFromTheLeft() {
        fault("town grows 10 bald 21 shave 101", 4, 11);
        fault("town grows 10 bold", 4, 11);
        fault("town grow 10", 1, 5);
        fault(NAMES + ";against z z", 2, NAMES.length() + 9);
        fault(NAMES + ";against z 7", 2, NAMES.length() + 9);
        fault(NAMES + ";against 7 z", 1, NAMES.length() + 9);
        fault(NAMES + ";man a red", 3, NAMES.length() + 5);
        fault(NAMES + ";man d red long 100", 1, NAMES.length() + 7);
        fault(NAMES + ";man d fair long 100 votes x", 4, NAMES.length() + 17);
        fault(NAMES + ";amends p q;amends z p", 7, NAMES.length() + 10);
        fault(NAMES + ";heap fair 1;heap fair x", 3, NAMES.length() + 18);
        fault(NAMES + ";quarrel a a;town", 3, NAMES.length() + 11);
        fault("man a;" + TOWN + "!", 6, 0);
    }

    private void leastOfOnePlace() {
        // the end: no LINE behind the semicolon (1), and no man (6)
        fault(TOWN + ";", 1, TOWN.length() + 1);
        fault("", 1, 0);
        fault("town grows 0", 1, 12);
        // a NAME that isn't told (2) is not told ahead (7) either
        fault(NAMES + ";amends p z", 2, NAMES.length() + 10);
        // a reserved WORD is no NAME (1), told (2) or not
        fault(NAMES + ";against man p", 1, NAMES.length() + 9);
        // a motion where a man must stand (2), though it is the first one once more (3)
        fault(NAMES + ";quarrel p p", 2, NAMES.length() + 9);
        // nine letters ahead of the town: no TOKEN (1) rather than a LINE (6)
        fault("manmanman a", 1, 0);
    }

    // ---- 3, 4, 5: what a town changes

    private BarberMinutes used() {
        BarberMinutes x = Tape.of("town grows 3 bald 1 shave 7;man a fair long 9 votes 1;man b grey long 8 votes 1;"
            + "motion p cuts 2 needs 2 worth 1;chair c at 4;heap grey 9");
        x.image();
        x.put(0);
        x.week();
        x.shave(0);
        return x;
    }

    private void refusedTownStays() {
        BarberMinutes x = used();
        String before = seen(x);
        refused("3 a fault", x, Tape.town(x, SMALL + ";man a"), 4);
        due("3 the town stays", seen(x), before);
        refused("3 a number", x, x.town(1), 2);
        due("3 the town stays by 2", seen(x), before);
        due("3 what could be undone can be", x.undo(), true);
        due("3 an image stays", x.back(0), true);
    }

    private void newTownIsFresh() {
        BarberMinutes x = used();
        granted("3 a new one", x, Tape.town(x, SMALL + ";motion p cuts 1 needs 0 worth 0"), 1);
        due("3 all is new", seen(x), "sizes 0 0 0 1 1 0 0 0 0 0 0 0 0 0 hair 0 floor 0 0 0 carried 0");
        led("3 nothing carried", x, 0, "none such");
        refused("3 nothing to undo", x, x.undo() ? 1 : 0, 0, 6);
        refused("3 no images", x, x.back(0) ? 1 : 0, 0, 1);
        // the same text once more is a new town too
        x.put(0);
        x.image();
        Tape.town(x, SMALL + ";motion p cuts 1 needs 0 worth 0");
        due("3 all is new again", seen(x), "sizes 0 0 0 1 1 0 0 0 0 0 0 0 0 0 hair 0 floor 0 0 0 carried 0");
    }

    private void latestFault() {
        BarberMinutes x = new BarberMinutes();
        due("4 ahead of any", x.fault(), 0);
        x.town(1);
        due("4 refused by 2 ahead of any", x.fault(), 0);
        Tape.town(x, "town grows 10");
        due("4 bounds", x.fault(), 4);
        x.town(1);
        due("4 it stays behind one refused by 2", x.fault(), 4);
        x.man(0, 0);
        due("4 it stays behind other calls", x.fault(), 4);
        Tape.town(x, "x");
        due("4 the latest", x.fault(), 1);
        Tape.town(x, SMALL);
        due("4 without one", x.fault(), 0);
        x.town(-1);
        due("4 still without one", x.fault(), 0);
    }

    private void placeOfTheLatest() {
        BarberMinutes x = new BarberMinutes();
        due("5 ahead of any", x.where(), -1);
        Tape.town(x, SMALL);
        due("5 no fault", x.where(), -1);
        Tape.town(x, "town grows 10");
        due("5 at it", x.where(), 11);
        due("5 asked again", x.where(), 11);
        x.fault();
        x.trouble();
        x.size(3);
        x.size(99);
        led("5 led", x, 0, "none such");
        x.feed(0, 0, 0, 0, 0);
        due("5 behind calls of which no number is told", x.where(), 11);
        x.bald();
        due("5 behind one that wasn't refused", x.where(), -1);
        due("4 the fault is told all the same", x.fault(), 4);
        x.town(0);
        due("5 at the end of nothing", x.where(), 0);
        x.man(9, 0);
        due("5 behind one that was, by 1", x.where(), -1);
        x.town(0);
        x.undo();
        due("5 behind one that was, by 6", x.where(), -1);
        x.town(0);
        x.town(1);
        due("5 behind one that was, by 2", x.where(), -1);
    }
}
