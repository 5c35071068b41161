import java.util.ArrayList;
import java.util.LinkedHashMap;
import java.util.List;
import java.util.Map;

/** Each sentence about acts, undoing, images and TROUBLE that names an edge: empty, full, wrapped around, refused. */
public final class ActEdgesTest extends Asking {
    /** Everybody says yes to p and nobody to q; r amends p; s is carried by nobody's yes. */
    private static final String TOWN = "town grows 2 bald 3 shave 0;man a fair long 9 votes 1;man b dark long 1 votes 1;"
        + "man c grey long 6 votes 2;motion p cuts 4 needs 3 worth 1;motion q cuts 30 needs 1 worth 1;"
        + "motion r cuts 1 needs 0 worth 1;motion s cuts 30 needs 0 worth 1;amends r p";
    private static final String ONE = "town grows 1 bald 0 shave 0;man a fair long 1 votes 0";
    private static final int MIN = Integer.MIN_VALUE;
    private static final int MAX = Integer.MAX_VALUE;

    private ActEdgesTest() {
        super("act edges");
    }

    public static void main(String[] args) {
        ActEdgesTest test = new ActEdgesTest();
        test.puts();
        test.putsThatFail();
        test.shaves();
        test.weeks();
        test.lastWeek();
        test.undoEachAct();
        test.nothingToUndo();
        test.sixteenActs();
        test.ringOfActs();
        test.refusedIsNoAct();
        test.threeImages();
        test.backToImages();
        test.backAndUndo();
        test.imagesStay();
        test.leds();
        test.sizes();
        test.sizesOfNothing();
        test.grantedHasNoTrouble();
        test.smallerTown();
        test.noNumberNoTrouble();
        test.everyTrouble();
        test.end();
    }

    private static int undone(BarberMinutes x) {
        return x.undo() ? 1 : 0;
    }

    private static int gone(BarberMinutes x, int image) {
        return x.back(image) ? 1 : 0;
    }

    // ---- 48: put

    private void puts() {
        edges("48 motion", TOWN.replace(";amends r p", ""), (x, k) -> x.put(k), 0, 1, 3, 1, 1);
        refusedAll("48 may not be put", TOWN, (x, k) -> x.put(k), -1, 5, 2);
        BarberMinutes x = Tape.of(TOWN);
        granted("48 carried", x, x.put(0), 1);
        due("48 cut off who says yes", seen(x),
            "sizes 2 3 0 3 4 0 1 0 0 0 0 1 0 0 hair 5 1 2 floor 4 0 4 carried 1 0 0 0");
        refused("48 it was carried", x, x.put(0), 5);
        granted("48 what it amends was", x, x.put(2), 1);
        due("48 c is bald by now", seen(x),
            "sizes 2 3 0 3 4 0 1 0 0 0 0 2 0 0 hair 4 1 2 floor 5 0 4 carried 1 0 1 0");
        refused("48 it was carried, too", x, x.put(2), 5);
    }

    private void putsThatFail() {
        BarberMinutes x = Tape.of(TOWN);
        granted("48 nobody says yes, one vote is needed", x, x.put(1), 0);
        due("48 nothing falls; it is an act", seen(x),
            "sizes 2 3 0 3 4 0 1 0 0 0 0 1 0 0 hair 9 1 6 floor 0 0 0 carried 0 0 0 0");
        granted("48 it may be put again", x, x.put(1), 0);
        granted("48 nobody says yes, none is needed", x, x.put(3), 1);
        x.shave(2);
        granted("48 not enough", x, x.put(0), 0);
        due("48 it cuts all the same", seen(x),
            "sizes 2 3 0 3 4 0 1 0 0 0 0 5 0 0 hair 5 1 0 floor 4 0 6 carried 0 0 0 1");
        refused("48 what it amends was put, not carried", x, x.put(2), 5);
    }

    // ---- 50: shave

    private void shaves() {
        edges("50 man", TOWN, (x, m) -> x.shave(m), 0, 9, 2, 6, 1);
        BarberMinutes x = Tape.of("town grows 1 bald 0 shave 0;man a fair long 0 votes 0;man b dark long 1 votes 0;"
            + "man c grey long 99 votes 0");
        refused("50 nothing would", x, x.shave(0), 5);
        granted("50 the least that can", x, x.shave(1), 1);
        refused("50 nothing more", x, x.shave(1), 5);
        granted("50 the most that is told", x, x.shave(2), 99);
        due("50 it falls", seen(x), "sizes 1 0 0 3 0 0 0 0 0 0 0 2 0 0 hair 0 0 0 floor 0 1 99 carried");
        x.week();
        granted("50 a week's hair", x, x.shave(0), 1);
        granted("50 more of the same colour", x, x.shave(2), 1);
        due("8 together", x.floor(2), 100);
    }

    // ---- 49: week

    private void weeks() {
        BarberMinutes x = Tape.of(TOWN);
        granted("49 b has as much as bald is", x, x.week(), 0);
        due("49 grown", seen(x), "sizes 2 3 0 3 4 0 1 0 0 0 1 1 0 0 hair 11 3 8 floor 0 0 0 carried 0 0 0 0");
        x.shave(0);
        x.shave(2);
        granted("49 two are short of it", x, x.week(), 5);
        granted("49 nobody is", x, x.week(), 0);
        due("55 weeks", x.size(10), 3);
    }

    /** Behind 512 calls the document leaves answers free; what it says of 999 WEEKS is kept all the same. */
    private void lastWeek() {
        BarberMinutes x = Tape.of(ONE);
        for (int i = 0; i < 998; i++) {
            x.week();
        }
        granted("49 the last one", x, x.week(), 0);
        due("55 999 went by", x.size(10), 999);
        refused("49 999 went by", x, x.week(), 3);
        due("55 it stays", x.size(10), 999);
        due("55 no act", x.size(11), 16);
        granted("51 one is undone", x, undone(x), 1);
        due("55 998 went by", x.size(10), 998);
        granted("49 one more", x, x.week(), 0);
        refused("49 no more", x, x.week(), 3);
    }

    // ---- 51: undo

    private void undoEachAct() {
        BarberMinutes x = Tape.of(TOWN);
        List<String> before = new ArrayList<>();
        for (int i = 0; i < 8; i++) {
            before.add(seen(x));
            switch (i) {
                case 0 -> x.put(0);
                case 1, 4 -> x.week();
                case 2 -> x.put(1);
                case 3 -> x.shave(0);
                case 5 -> x.put(3);
                case 6 -> x.shave(2);
                default -> x.put(2);
            }
            due("55 acts", x.size(11), i + 1);
        }
        for (int i = 7; i >= 0; i--) {
            granted("51 act " + i, x, undone(x), 1);
            due("51 as ahead of act " + i, seen(x), before.get(i));
        }
        refused("51 no more", x, undone(x), 0, 6);
        due("51 nothing changes", seen(x), before.get(0));
    }

    private void nothingToUndo() {
        BarberMinutes none = new BarberMinutes();
        refused("51 no town", none, undone(none), 0, 6);
        BarberMinutes x = Tape.of(TOWN);
        refused("51 no act", x, undone(x), 0, 6);
        x.image();
        refused("51 an image is no act", x, undone(x), 0, 6);
        x.week();
        granted("51 one", x, undone(x), 1);
        refused("51 undoing is no act", x, undone(x), 0, 6);
        x.week();
        Tape.town(x, TOWN);
        refused("51 a new town", x, undone(x), 0, 6);
    }

    private void sixteenActs() {
        for (int acts = 15; acts <= 18; acts++) {
            BarberMinutes x = Tape.of(ONE);
            for (int i = 1; i <= acts; i++) {
                x.week();
                due("55 kept behind " + i, x.size(11), Math.min(i, 16));
            }
            for (int i = 1; i <= Math.min(acts, 16); i++) {
                granted("51 undo " + i + " of " + acts, x, undone(x), 1);
                due("51 weeks left", x.size(10), acts - i);
                due("51 hair left", x.man(0, 1), 1 + acts - i);
            }
            due("55 none is kept", x.size(11), 0);
            refused("51 beyond what is kept of " + acts, x, undone(x), 0, 6);
            due("51 nothing changes", x.size(10), Math.max(0, acts - 16));
        }
    }

    /** Acts and undoing by turns, many times over the 16 that are kept. */
    private void ringOfActs() {
        for (int first = 1; first <= 20; first++) {
            BarberMinutes x = Tape.of(ONE);
            int weeks = 0;
            int kept = 0;
            for (int turn = 0; turn < 6; turn++) {
                for (int i = 0; i < first; i++) {
                    x.week();
                    weeks++;
                    kept = Math.min(16, kept + 1);
                }
                for (int i = 0; i < turn + 4; i++) {
                    refusedOrUndone(x, kept);
                    weeks -= kept > 0 ? 1 : 0;
                    kept -= kept > 0 ? 1 : 0;
                }
                due("51 weeks by turns of " + first, x.size(10), weeks);
                due("55 acts by turns of " + first, x.size(11), kept);
                due("51 hair by turns of " + first, x.man(0, 1), 1 + weeks);
            }
        }
    }

    private void refusedOrUndone(BarberMinutes x, int kept) {
        if (kept > 0) {
            granted("51 kept are " + kept, x, undone(x), 1);
        } else {
            refused("51 none is kept", x, undone(x), 0, 6);
        }
    }

    private void refusedIsNoAct() {
        BarberMinutes x = Tape.of(TOWN);
        x.week();
        x.shave(0);
        String before = seen(x);
        x.put(2);
        x.put(4);
        x.put(-1);
        x.shave(0);
        x.shave(3);
        x.shave(-1);
        x.back(0);
        due("55 refused calls are no acts", seen(x), before);
        x.bestRow(4);
        x.weeksFor(0);
        x.worthOf(1111, 4);
        x.longIn(0, 60);
        x.carryIn(1);
        x.hairyIn();
        x.soonest();
        x.fits();
        x.odds(0, true);
        x.mean(0, true);
        x.shaves(0, 1, 60);
        x.carries(0, 1, 60);
        due("55 nor are questions", seen(x), before);
        granted("51 the shave", x, undone(x), 1);
        due("51 hair", x.man(0, 1), 11);
    }

    // ---- 52, 53: images

    private void threeImages() {
        BarberMinutes x = Tape.of(TOWN);
        granted("52 the first", x, x.image(), 0);
        granted("52 the same once more", x, x.image(), 1);
        x.week();
        due("55 two", x.size(12), 2);
        granted("52 the last there is room for", x, x.image(), 2);
        String before = seen(x);
        refused("52 no room", x, x.image(), 3);
        due("52 nothing changes", seen(x), before);
        x.back(0);
        refused("52 no room still", x, x.image(), 3);
        x.week();
        x.undo();
        refused("52 undoing makes no room", x, x.image(), 3);
        Tape.town(x, SMALL + ";man b");
        refused("52 nor does a fault", x, x.image(), 3);
        Tape.town(x, TOWN);
        granted("52 a new town has room", x, x.image(), 0);
        granted("53 to it", x, gone(x, 0), 1);
        refused("53 the others are gone", x, gone(x, 1), 0, 1);
    }

    private void backToImages() {
        for (int images = 0; images <= 3; images++) {
            int most = images - 1;
            String what = "53 of " + images;
            for (int image : new int[] {-1, MIN, MAX, images, 3}) {
                BarberMinutes x = withImages(images);
                String before = seen(x);
                refused(what + " to " + image, x, gone(x, image), 0, 1);
                due(what + " nothing changes", seen(x), before);
            }
            for (int image = 0; image <= most; image++) {
                BarberMinutes x = withImages(images);
                granted(what + " to " + image, x, gone(x, image), 1);
                due(what + " weeks of " + image, x.size(10), image);
                due(what + " hair of " + image, x.man(0, 1), 1 + image);
                due(what + " all stay", x.size(12), images);
                due(what + " nothing to undo", x.size(11), 0);
            }
        }
    }

    /** Image i is taken behind i weeks; five went by. */
    private static BarberMinutes withImages(int images) {
        BarberMinutes x = Tape.of(ONE);
        for (int i = 0; i < 5; i++) {
            if (i < images) {
                x.image();
            }
            x.week();
        }
        return x;
    }

    private void backAndUndo() {
        BarberMinutes x = withImages(2);
        granted("53 gone back", x, gone(x, 1), 1);
        refused("51 nothing can be undone", x, undone(x), 0, 6);
        x.week();
        x.week();
        due("55 acts since", x.size(11), 2);
        granted("51 the second", x, undone(x), 1);
        granted("51 the first", x, undone(x), 1);
        due("51 as by the image", x.size(10), 1);
        refused("51 no further", x, undone(x), 0, 6);
        x.week();
        refused("53 none such", x, gone(x, 2), 0, 1);
        granted("51 a refused one leaves what can be undone", x, undone(x), 1);
    }

    private void imagesStay() {
        BarberMinutes x = Tape.of(TOWN);
        x.put(0);
        x.image();
        String image = seen(x);
        x.week();
        x.put(3);
        x.shave(0);
        x.undo();
        x.back(0);
        due("53 hair, floor, carried, weeks", seen(x).replace(" 0 1 0 hair", " 1 1 0 hair"),
            image);
        x.shave(2);
        x.put(2);
        x.back(0);
        due("53 it stays as it was", seen(x).replace(" 0 1 0 hair", " 1 1 0 hair"), image);
    }

    // ---- 54, 55: led, size

    private void leds() {
        BarberMinutes none = new BarberMinutes();
        BarberMinutes x = Tape.of(SMALL + ";motion p cuts 1 needs 0 worth 0;motion q cuts 1 needs 0 worth 0;"
            + "motion r cuts 1 needs 0 worth 0;motion s cuts 1 needs 0 worth 0;motion t cuts 1 needs 0 worth 0");
        for (int i : new int[] {0, 1, -1, MIN, MAX}) {
            led("54 no town", none, i, "none such");
            led("54 nothing carried", x, i, "none such");
        }
        int[] order = {4, 1, 3, 0, 2};
        String[] led = {"4", "14", "134", "0134", "01234"};
        for (int put = 0; put < 5; put++) {
            x.put(order[put]);
            for (int i = 0; i <= put; i++) {
                led("54 of " + led[put], x, i, "" + led[put].charAt(i));
            }
            led("54 one too many of " + led[put], x, put + 1, "none such");
            led("54 below", x, -1, "none such");
        }
        led("54 far below", x, MIN, "none such");
        led("54 far above", x, MAX, "none such");
        x.undo();
        led("54 one undone", x, 2, "3");
        led("54 one fewer", x, 4, "none such");
    }

    private void sizes() {
        BarberMinutes x = Tape.of(TOWN + ";against a q;against b q;quarrel a b;quarrel b c;quarrel c a;chair d at 1;"
            + "chair e at 2;heap fair 1");
        x.week();
        x.week();
        x.put(0);
        x.image();
        Tape.feed(x, "x");
        int[] want = {2, 3, 0, 3, 4, 2, 1, 3, 2, 1, 2, 3, 1, 20};
        for (int what = 0; what < 14; what++) {
            due("55 size " + what, x.size(what), want[what]);
        }
        for (int what : new int[] {-1, 14, 15, MIN, MAX}) {
            due("55 NONE for " + what, x.size(what), -1);
        }
    }

    private void sizesOfNothing() {
        BarberMinutes none = new BarberMinutes();
        for (int what = 0; what < 14; what++) {
            due("55 0 without a town, " + what, none.size(what), 0);
        }
        for (int what : new int[] {-1, 14, MIN, MAX}) {
            due("55 NONE without a town, " + what, none.size(what), -1);
        }
        Tape.town(none, "town grows 9 bald 9 shave 9;man a fair long 9 votes 9;man a");
        for (int what = 0; what < 14; what++) {
            due("55 0 behind a fault, " + what, none.size(what), 0);
        }
    }

    // ---- 56: trouble

    private static Map<String, Call> granted() {
        Map<String, Call> calls = new LinkedHashMap<>();
        calls.put("6 man", (x, a) -> x.man(a, 0));
        calls.put("7 motion", (x, a) -> x.motion(a, 0));
        calls.put("8 floor", (x, a) -> x.floor(a));
        calls.put("9 bald", (x, a) -> x.bald());
        calls.put("10 longest", (x, a) -> x.longest());
        calls.put("11 ready", (x, a) -> x.ready());
        calls.put("12 quorum", (x, a) -> x.quorum());
        calls.put("13 behind", (x, a) -> x.behind(a));
        calls.put("14 depth", (x, a) -> x.depth(a));
        calls.put("15 longIn", (x, a) -> x.longIn(a, 0));
        calls.put("16 yesIn", (x, a) -> x.yesIn(a, 0));
        calls.put("17 carryIn", (x, a) -> x.carryIn(a));
        calls.put("17 carryIn -2", (x, a) -> x.carryIn(1));
        calls.put("18 hairyIn", (x, a) -> x.hairyIn());
        calls.put("19 soonest", (x, a) -> x.soonest());
        calls.put("20 worthOf", (x, a) -> x.worthOf(0, 1));
        calls.put("21 bestRow", (x, a) -> x.bestRow(1));
        calls.put("22 bestWorth", (x, a) -> x.bestWorth(1));
        calls.put("23 bestCarried", (x, a) -> x.bestCarried(1));
        calls.put("24 weeksFor", (x, a) -> x.weeksFor(a));
        calls.put("24 weeksFor -2", (x, a) -> x.weeksFor(1));
        calls.put("25 swings", (x, a) -> x.swings(a, 0));
        calls.put("26 mighty -2", (x, a) -> x.mighty(0));
        calls.put("27 outvoted", (x, a) -> x.outvoted(0));
        calls.put("28 bench", (x, a) -> x.bench(0));
        calls.put("28 bench -2", (x, a) -> x.bench(54));
        calls.put("29 parting", (x, a) -> x.parting());
        calls.put("30 left", (x, a) -> x.left());
        calls.put("31 peace", (x, a) -> x.peace());
        calls.put("32 apart", (x, a) -> x.apart(a, a));
        calls.put("33 round", (x, a) -> x.round());
        calls.put("34 roundAt", (x, a) -> x.roundAt(a));
        calls.put("35 fits", (x, a) -> x.fits());
        calls.put("36 fitAt", (x, a) -> x.fitAt(a));
        calls.put("37 could", (x, a) -> x.could());
        calls.put("38 surely", (x, a) -> x.surely());
        calls.put("39 ask", (x, a) -> x.ask());
        calls.put("40 askLeaves", (x, a) -> x.askLeaves());
        calls.put("41 talk", (x, a) -> x.talk(0, false, false, false));
        calls.put("42 rests", (x, a) -> x.rests(0));
        calls.put("43 rest", (x, a) -> x.rest(0));
        calls.put("44 odds", (x, a) -> x.odds(a, false));
        calls.put("45 mean", (x, a) -> x.mean(a, false));
        calls.put("46 shaves", (x, a) -> x.shaves(a, 0, 0));
        calls.put("47 carries", (x, a) -> x.carries(a, 0, 0));
        calls.put("48 put", (x, a) -> x.put(a));
        calls.put("49 week", (x, a) -> x.week());
        calls.put("50 shave", (x, a) -> x.shave(a));
        calls.put("51 undo", (x, a) -> undone(x));
        calls.put("52 image", (x, a) -> x.image());
        calls.put("53 back", (x, a) -> gone(x, a));
        return calls;
    }

    /** A call that is not refused takes the trouble of the one ahead of it away, and the place of a fault. */
    private void grantedHasNoTrouble() {
        for (Map.Entry<String, Call> call : granted().entrySet()) {
            BarberMinutes x = Tape.of(TOWN + ";chair z at 0");
            x.image();
            x.week();
            refused("56 ahead of " + call.getKey(), x, x.man(-1, 0), 1);
            call.getValue().of(x, 0);
            due("56 behind " + call.getKey(), x.trouble(), 0);
            Tape.town(x, "x");
            due("5 ahead of " + call.getKey(), x.where(), 0);
            call.getValue().of(x, 0);
            due("5 behind " + call.getKey(), x.where(), -1);
        }
        BarberMinutes x = new BarberMinutes();
        x.undo();
        Tape.town(x, TOWN);
        due("56 behind a town", x.trouble(), 0);
    }

    /** Behind a town full of all, one with fewer answers as it does in a new object. */
    private void smallerTown() {
        String large = "town grows 9 bald 1 shave 99;man a fair long 9 votes 9;man b dark long 99 votes 9;"
            + "man c grey long 99 votes 9;motion p cuts 2 needs 2 worth 9;motion q cuts 2 needs 2 worth 9;"
            + "against b p;amends q p;quarrel a b;quarrel b c;chair d at 4;chair e at 80;heap fair 2;heap grey 9";
        String[] small = {SMALL, SMALL + ";motion p cuts 1 needs 1 worth 1;chair d at 9", ONE + ";man b fair long 0 votes 1"};
        for (String text : small) {
            for (Map.Entry<String, Call> call : granted().entrySet()) {
                for (int a = 0; a < 3; a++) {
                    BarberMinutes x = Tape.of(large);
                    x.image();
                    x.put(0);
                    x.bestRow(4);
                    x.round();
                    x.fits();
                    x.shaves(0, 5, 9);
                    Tape.town(x, text);
                    BarberMinutes fresh = Tape.of(text);
                    due("3 " + call.getKey() + " of " + a, call.getValue().of(x, a), call.getValue().of(fresh, a));
                    due("56 " + call.getKey() + " of " + a, x.trouble(), fresh.trouble());
                    due("3 all behind " + call.getKey() + " of " + a, seen(x), seen(fresh));
                }
            }
        }
    }

    /** Calls of which no number is told leave TROUBLE as it is, refusing or not. */
    private void noNumberNoTrouble() {
        BarberMinutes x = Tape.of(SMALL);
        for (int trouble : new int[] {2, 0}) {
            if (trouble == 2) {
                x.town(1);
            } else {
                x.bald();
            }
            x.fault();
            x.where();
            x.size(0);
            x.size(99);
            led("54 none", x, 0, "none such");
            x.feed(0, 0, 0, 0, 0);
            for (int i = 0; i < 45; i++) {
                x.feed(0, 0, 0, 0, 0);
            }
            due("2 refused", x.feed(0, 0, 0, 0, 0), -1);
            due("56 as it was", x.trouble(), trouble);
            due("56 asked again", x.trouble(), trouble);
        }
    }

    private void everyTrouble() {
        BarberMinutes x = new BarberMinutes();
        due("56 at first", x.trouble(), 0);
        refused("56 there is none such", x, x.bald(), 1);
        refused("56 a number", x, x.town(1), 2);
        refused("56 a FAULT", x, x.town(0), 4);
        refused("56 there is none", x, undone(x), 0, 6);
        granted("56 it wasn't", x, Tape.town(x, TOWN), 3);
        refused("56 not so", x, x.put(2), 5);
        x.image();
        x.image();
        x.image();
        refused("56 no room", x, x.image(), 3);
        granted("56 it wasn't", x, x.week(), 0);
    }
}
