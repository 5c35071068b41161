/** Each promise by hand: ordinary inputs, the edges that the document names, wrong inputs with NONE and TROUBLE. */
public final class PromisesTest extends Asking {
    private static final String HEAD = "town grows 2 bald 5 shave 50;";
    private static final String MEN = "man abe fair long 10 votes 3;man bob dark long 4 votes 2;"
        + "man cy grey long 20 votes 1;man dan fair long 7 votes 4";
    private static final String MOTIONS = ";motion well cuts 3 needs 5 worth 10;motion pole cuts 8 needs 4 worth 20;"
        + "motion rum cuts 1 needs 8 worth 5";
    private static final String TOWN = HEAD + MEN + MOTIONS + ";against cy rum;against dan pole;amends pole well;"
        + "amends rum well;quarrel abe bob;quarrel bob cy;quarrel cy abe;chair east at 0;chair west at 50;"
        + "chair north at 90;chair south at 40;heap fair 6;heap grey 3";

    private PromisesTest() {
        super("promises");
    }

    public static void main(String[] args) {
        PromisesTest test = new PromisesTest();
        test.newObject();
        test.feedAndTown();
        test.forms();
        test.namesAndBounds();
        test.rooms();
        test.menNow();
        test.motionsNow();
        test.townNow();
        test.amendments();
        test.weeksToCome();
        test.soonest();
        test.worths();
        test.bestAgendas();
        test.weeksForMotions();
        test.turns();
        test.benches();
        test.sides();
        test.rounds();
        test.floors();
        test.asks();
        test.speaker();
        test.chances();
        test.draws();
        test.puts();
        test.weeksAndShaves();
        test.undoing();
        test.images();
        test.ledAndSize();
        test.troubles();
        test.end();
    }

    // ---- the town

    private void newObject() {
        BarberMinutes x = new BarberMinutes();
        due("1 NONE", BarberMinutes.NONE, -1);
        due("56 trouble at first", x.trouble(), 0);
        due("4 fault at first", x.fault(), 0);
        due("5 where at first", x.where(), -1);
        for (int what = 0; what < 14; what++) {
            due("1 size " + what, x.size(what), 0);
        }
        refused("1 no man", x, x.man(0, 0), 1);
        refused("1 not bald", x, x.bald(), 1);
        refused("1 no image", x, x.image(), 1);
        refused("1 no image to go back to", x, x.back(0) ? 1 : 0, 0, 1);
        refused("1 nothing to undo", x, x.undo() ? 1 : 0, 0, 6);
        led("1 nothing led", x, 0, "none such");
    }

    private void feedAndTown() {
        BarberMinutes x = new BarberMinutes();
        for (int i = 1; i <= 45; i++) {
            due("2 feed " + i, x.feed(0x20202020, 0x20202020, 0x20202020, 0x20202020, 0x20202020), i * 20);
        }
        x.man(0, 0);
        due("2 feed over 900", x.feed(0, 0, 0, 0, 0), -1);
        due("2 the tape stays", x.size(13), 900);
        due("56 feed tells no trouble", x.trouble(), 1);
        refused("3 more than there is", x, x.town(901), 2);
        refused("3 below 0", x, x.town(-1), 2);
        due("4 no fault by 2", x.fault(), 0);
        due("3 the tape stays", x.size(13), 900);
        refused("3 blanks alone", x, x.town(900), 4);
        due("4 blanks alone", x.fault(), 1);
        due("5 the end", x.where(), 900);
        due("3 the tape is empty", x.size(13), 0);
        refused("3 nothing at all", x, x.town(0), 4);
        due("5 the end", x.where(), 0);
        Tape.feed(x, TOWN + "; and what is behind");
        due("3 the first bytes", x.town(TOWN.length()), 4);
        due("3 all of the tape is gone", x.size(13), 0);
        due("4 fault without one", x.fault(), 0);
        refused("3 fault", x, Tape.town(x, "town grows 2 bald 5 shave 50;man x"), 4);
        due("5 where", x.where(), 34);
        due("5 where stays behind feed", x.feed(0, 0, 0, 0, 0), 20);
        due("5 where stays", x.where(), 34);
        due("3 the town stays", x.size(3), 4);
        due("4 fault", x.fault(), 1);
        refused("3 a number", x, x.town(21), 2);
        due("4 fault of the one not refused by 2", x.fault(), 1);
        due("5 where by another refusal", x.where(), -1);
    }

    private void forms() {
        fault("", 1, 0);
        fault("   ", 1, 3);
        fault("house", 1, 0);
        fault(" ;", 1, 1);
        fault("town", 1, 4);
        fault("town grows 0 bald 0 shave 0", 6, 27);
        fault("town grows 0 bald 0 shave 0  ", 6, 29);
        fault("town grows 0 bald 0 shave 0;", 1, 28);
        fault("town grows 0 bald 0 shave 0 0", 1, 28);
        fault("town grow 0", 1, 5);
        fault("town grows x", 1, 11);
        fault("town grows 1000", 1, 11);
        fault("town grows -1", 1, 11);
        fault("town grows 0 bald 0 shave 0\n;", 1, 27);
        fault("Town", 1, 0);
        fault("town grows 0 bald 0 shave 0;" + (char) 0xe9, 1, 28);
        fault(SMALL + ";;", 1, 54);
        fault(SMALL + ";", 1, 54);
        fault(SMALL + "; boys", 1, 55);
        fault(SMALL + ";man abcdefghi fair", 1, 58);
        fault(SMALL + ";man 1", 1, 58);
        fault(SMALL + ";man b ; fair", 1, 60);
        fault(SMALL + ";man town", 1, 58);
        fault(SMALL + ";against man", 1, 62);
        fault(SMALL + ";heap a 1", 1, 59);
        stands("  town  grows 000bald 0shave 100 ;man abcdefgh fair long 99votes 9;man fair dark long 0 votes 0 ", 2);
        stands("town grows 9 bald 20 shave 0;man grows grey long 0 votes 0;motion long cuts 1 needs 0 worth 0;"
            + "chair at at 99", 1);
    }

    private void namesAndBounds() {
        String two = SMALL + ";man b dark long 0 votes 0;motion p cuts 30 needs 54 worth 99;"
            + "motion q cuts 1 needs 0 worth 0;chair c at 0";
        int n = two.length();
        stands(two + ";against a p;against a q;against b p;amends q p;quarrel b a;heap grey 999;heap dark 0", 2);
        fault(two + ";man a", 3, n + 5);
        fault(two + ";chair p", 3, n + 7);
        fault(two + ";motion c", 3, n + 8);
        fault(two + ";against p q", 2, n + 9);
        fault(two + ";against z q", 2, n + 9);
        fault(two + ";against a b", 2, n + 11);
        fault(two + ";amends q c", 2, n + 10);
        fault(two + ";quarrel a c", 2, n + 11);
        fault(two + ";against a p;against a p", 3, n + 23);
        fault(two + ";amends q p;amends q p", 3, n + 21);
        fault(two + ";amends p q", 7, n + 10);
        fault(two + ";amends p p", 7, n + 10);
        fault(two + ";quarrel a a", 3, n + 11);
        fault(two + ";quarrel a b;quarrel b a", 3, n + 23);
        fault(two + ";heap fair 1;heap fair 1", 3, n + 18);
        fault(two + ";town grows 0", 3, n + 1);
        fault("man a dark long 0 votes 0;" + SMALL, 6, 0);
        fault(" heap grey 1", 6, 1);
        fault("town grows 10", 4, 11);
        fault("town grows 0 bald 21", 4, 18);
        fault("town grows 0 bald 0 shave 101", 4, 26);
        fault(SMALL + ";man b fair long 100", 4, SMALL.length() + 17);
        fault(SMALL + ";man b fair long 99 votes 10", 4, SMALL.length() + 26);
        fault(SMALL + ";motion b cuts 0", 4, SMALL.length() + 15);
        fault(SMALL + ";motion b cuts 31", 4, SMALL.length() + 15);
        fault(SMALL + ";motion b cuts 1 needs 55", 4, SMALL.length() + 23);
        fault(SMALL + ";motion b cuts 1 needs 54 worth 100", 4, SMALL.length() + 32);
        fault(SMALL + ";chair b at 100", 4, SMALL.length() + 12);
    }

    private void rooms() {
        StringBuilder text = new StringBuilder("town grows 0 bald 0 shave 0");
        for (char c = 'a'; c < 'g'; c++) {
            text.append(";man m").append(c).append(" fair long 0 votes 0");
        }
        full(text.toString(), "man z");
        for (char c = 'a'; c < 'f'; c++) {
            text.append(";motion k").append(c).append(" cuts 1 needs 0 worth 0");
        }
        full(text.toString(), "motion");
        for (char c = 'a'; c < 'f'; c++) {
            text.append(";chair c").append(c).append(" at 1");
        }
        full(text.toString(), "chair c");
        full(text + ";against ma ka;against ma kb;against ma kc;against ma kd;against ma ke;against mb ka;"
            + "against mb kb;against mb kc;against mb kd", "against");
        full(text + ";amends kb ka;amends kc ka;amends kd ka;amends ke ka;amends kc kb;amends kd kb", "amends");
        full(text + ";quarrel ma mb;quarrel ma mc;quarrel ma md;quarrel ma me;quarrel ma mf;quarrel mb mc;"
            + "quarrel mb md;quarrel mb me;quarrel mb mf", "quarrel ma ma");
        fault(SMALL + ";heap fair 0;heap dark 0;heap grey 0;heap fair", 3, SMALL.length() + 42);
    }

    private void full(String text, String line) {
        stands(text, 6);
        fault(text + "; " + line, 5, text.length() + 2);
    }

    // ---- now

    private void menNow() {
        BarberMinutes x = Tape.of(TOWN);
        int[][] want = {{0, 10, 3, 0, 0, 6, 7}, {1, 4, 2, 1, 0, 5, 0}, {2, 20, 1, 0, 4, 3, 3}, {0, 7, 4, 0, 2, 0, 5}};
        for (int m = 0; m < 4; m++) {
            for (int what = 0; what < 7; what++) {
                due("6 man " + m + " " + what, x.man(m, what), want[m][what]);
            }
        }
        due("56 trouble", x.trouble(), 0);
        refused("6 man 4", x, x.man(4, 0), 1);
        refused("6 man -1", x, x.man(-1, 0), 1);
        refused("6 what 7", x, x.man(0, 7), 1);
        refused("6 what -1", x, x.man(0, -1), 1);
        BarberMinutes even = Tape.of("town grows 0 bald 5 shave 0;man a fair long 5 votes 1;man b fair long 4 votes 1;"
            + "motion p cuts 5 needs 0 worth 0;motion q cuts 6 needs 0 worth 0;motion r cuts 4 needs 0 worth 0");
        due("6 as long as bald", even.man(0, 3), 0);
        due("6 as long as it cuts", even.man(0, 6), 5);
        due("6 a bald one says no", even.man(1, 6), 0);
    }

    private void motionsNow() {
        BarberMinutes x = Tape.of(TOWN);
        int[][] want = {{3, 5, 10, 0, 0, 1, 8, 13}, {8, 4, 20, 1, 0, 0, 4, 5}, {1, 8, 5, 1, 0, 0, 7, 9}};
        for (int k = 0; k < 3; k++) {
            for (int what = 0; what < 8; what++) {
                due("7 motion " + k + " " + what, x.motion(k, what), want[k][what]);
            }
        }
        x.put(0);
        due("7 carried", x.motion(0, 4), 1);
        due("7 may not be put again", x.motion(0, 5), 0);
        due("7 what it amends was", x.motion(2, 5), 1);
        refused("7 motion 3", x, x.motion(3, 0), 1);
        refused("7 motion -1", x, x.motion(-1, 0), 1);
        refused("7 what 8", x, x.motion(0, 8), 1);
        refused("7 what -1", x, x.motion(0, -1), 1);
    }

    private void townNow() {
        BarberMinutes none = new BarberMinutes();
        BarberMinutes x = Tape.of(TOWN);
        x.put(0);
        due("8 fair", x.floor(0), 6);
        due("8 dark", x.floor(1), 0);
        due("8 grey", x.floor(2), 3);
        refused("8 floor 3", x, x.floor(3), 1);
        refused("8 floor -1", x, x.floor(-1), 1);
        due("9 bald", x.bald(), 10);
        due("10 longest", x.longest(), 2);
        due("11 none is ready", x.ready(), 0);
        due("12 quorum", x.quorum(), 4);
        x.week();
        due("9 bald behind a week", x.bald(), 0);
        due("11 pole and rum are ready", x.ready(), 6);
        due("12 quorum behind a week", x.quorum(), 10);
        x.shave(2);
        x.shave(1);
        due("10 longest of the others", x.longest(), 0);
        due("10 the first such", Tape.of(HEAD + "man a fair long 1 votes 0;man b fair long 9 votes 0;"
            + "man c fair long 9 votes 0").longest(), 1);
        refused("8 no town", none, none.floor(0), 1);
        refused("9 no town", none, none.bald(), 1);
        refused("10 no town", none, none.longest(), 1);
        refused("11 no town", none, none.ready(), 1);
        refused("12 no town", none, none.quorum(), 1);
        due("11 needs 0", Tape.of(SMALL + ";motion p cuts 1 needs 0 worth 0").ready(), 1);
    }

    private void amendments() {
        BarberMinutes x = Tape.of(SMALL + ";motion aa cuts 1 needs 0 worth 0;motion b cuts 1 needs 0 worth 0;"
            + "motion c cuts 1 needs 0 worth 0;motion d cuts 1 needs 0 worth 0;"
            + "motion e cuts 1 needs 0 worth 0;amends c aa;amends d c;amends d b;amends e b;amends e aa");
        int[] behind = {28, 24, 8, 0, 0};
        int[] depth = {1, 1, 2, 3, 2};
        for (int k = 0; k < 5; k++) {
            due("13 behind " + k, x.behind(k), behind[k]);
            due("14 depth " + k, x.depth(k), depth[k]);
        }
        refused("13 behind 5", x, x.behind(5), 1);
        refused("13 behind -1", x, x.behind(-1), 1);
        refused("14 depth 5", x, x.depth(5), 1);
        refused("14 depth -1", x, x.depth(-1), 1);
    }

    // ---- weeks to come

    private void weeksToCome() {
        BarberMinutes x = Tape.of(TOWN);
        due("15 now", x.longIn(0, 0), 10);
        due("15 in 60", x.longIn(2, 60), 140);
        due("15 200 at most", Tape.of("town grows 9 bald 0 shave 0;man a fair long 99 votes 0").longIn(0, 12), 200);
        due("15 short of it", Tape.of("town grows 9 bald 0 shave 0;man a fair long 99 votes 0").longIn(0, 11), 198);
        refused("15 in 61", x, x.longIn(0, 61), 2);
        refused("15 in -1", x, x.longIn(0, -1), 2);
        refused("15 man 4", x, x.longIn(4, 61), 1);
        due("16 now", x.yesIn(2, 0), 7);
        due("16 in 1", x.yesIn(2, 1), 9);
        due("16 in 2", x.yesIn(1, 2), 6);
        refused("16 in 61", x, x.yesIn(0, 61), 2);
        refused("16 in -1", x, x.yesIn(0, -1), 2);
        refused("16 motion 3", x, x.yesIn(3, -1), 1);
        due("17 now", x.carryIn(0), 0);
        due("17 in 1", x.carryIn(2), 1);
        refused("17 motion 3", x, x.carryIn(3), 1);
        String slow = "town grows 1 bald 20 shave 0;man a fair long 0 votes 1;motion p cuts 1 needs 1 worth 0;"
            + "motion q cuts 1 needs 2 worth 0";
        due("17 in 20", Tape.of(slow).carryIn(0), 20);
        due("17 never", Tape.of(slow).carryIn(1), -2);
        due("18 in 20", Tape.of(slow).hairyIn(), 20);
        due("18 now", Tape.of(SMALL).hairyIn(), 0);
        due("18 never", Tape.of(slow.replace("grows 1", "grows 0")).hairyIn(), -2);
        BarberMinutes none = new BarberMinutes();
        refused("18 no town", none, none.hairyIn(), 1);
        due("15 nothing changed", x.man(0, 1), 10);
    }

    private void soonest() {
        String text = "town grows 1 bald 0 shave 0;man a fair long 0 votes 1;motion p cuts 9 needs 1 worth 0;"
            + "motion q cuts 5 needs 1 worth 0;motion r cuts 5 needs 1 worth 0;motion s cuts 1 needs 1 worth 0";
        due("19 the soonest", Tape.of(text).soonest(), 3);
        due("19 of those that may be put, the first such", Tape.of(text + ";amends s p").soonest(), 1);
        due("19 never", Tape.of(SMALL + ";motion p cuts 1 needs 1 worth 0").soonest(), -2);
        due("19 no motion", Tape.of(SMALL).soonest(), -2);
        BarberMinutes x = Tape.of(SMALL + ";motion p cuts 1 needs 0 worth 0");
        due("19 before it is carried", x.soonest(), 0);
        x.put(0);
        due("19 it was carried", x.soonest(), -2);
        due("56 not refused", x.trouble(), 0);
        BarberMinutes none = new BarberMinutes();
        refused("19 no town", none, none.soonest(), 1);
    }

    // ---- agendas

    private void worths() {
        BarberMinutes x = Tape.of(TOWN);
        due("20 none", x.worthOf(0, 4), 0);
        due("20 first none, then well", x.worthOf(1, 2), 10);
        due("20 well, pole", x.worthOf(12, 2), 30);
        due("20 well, none, rum, pole", x.worthOf(1032, 4), 35);
        refused("20 pole first", x, x.worthOf(2, 1), 5);
        refused("20 well again", x, x.worthOf(11, 2), 5);
        refused("20 no motion 4", x, x.worthOf(4, 1), 2);
        refused("20 no motion, told ahead of what may not be", x, x.worthOf(24, 2), 2);
        refused("20 more digits", x, x.worthOf(10, 1), 2);
        refused("20 more digits yet", x, x.worthOf(10000, 4), 2);
        refused("20 below 0", x, x.worthOf(-1, 1), 2);
        refused("20 no weeks", x, x.worthOf(0, 0), 2);
        refused("20 five weeks", x, x.worthOf(0, 5), 2);
        BarberMinutes none = new BarberMinutes();
        refused("20 no town", none, none.worthOf(-1, 9), 1);
        due("20 nothing changed", x.motion(0, 4), 0);
        String hard = "town grows 1 bald 0 shave 0;man a fair long 0 votes 1;motion p cuts 2 needs 1 worth 7";
        due("20 put and not carried, put again", Tape.of(hard).worthOf(11, 2), 7);
        due("20 not carried", Tape.of(hard).worthOf(1, 1), 0);
    }

    private void bestAgendas() {
        BarberMinutes x = Tape.of(TOWN);
        int[][] want = {{1, 10, 1}, {12, 30, 3}, {123, 35, 7}, {123, 35, 7}};
        for (int n = 1; n <= 4; n++) {
            due("21 row of " + n, x.bestRow(n), want[n - 1][0]);
            due("22 worth of " + n, x.bestWorth(n), want[n - 1][1]);
            due("23 carried of " + n, x.bestCarried(n), want[n - 1][2]);
        }
        x.put(0);
        due("23 those ahead of it too", x.bestCarried(1), 3);
        due("22 only those in it", x.bestWorth(1), 20);
        refused("21 none", x, x.bestRow(0), 2);
        refused("22 five", x, x.bestWorth(5), 2);
        refused("23 below", x, x.bestCarried(-1), 2);
        BarberMinutes none = new BarberMinutes();
        refused("21 no town", none, none.bestRow(0), 1);
        refused("22 no town", none, none.bestWorth(0), 1);
        refused("23 no town", none, none.bestCarried(1), 1);
        BarberMinutes alike = Tape.of("town grows 0 bald 0 shave 0;man a fair long 9 votes 1;"
            + "motion p cuts 1 needs 1 worth 0;motion q cuts 1 needs 1 worth 5;motion r cuts 1 needs 1 worth 5");
        due("21 none ahead of all", alike.bestRow(4), 23);
        due("21 the first by numbers", alike.bestRow(1), 2);
        due("23 without what is worth nothing", alike.bestCarried(4), 6);
    }

    private void weeksForMotions() {
        BarberMinutes x = Tape.of(TOWN);
        due("24 well", x.weeksFor(0), 1);
        due("24 pole", x.weeksFor(1), 2);
        due("24 rum", x.weeksFor(2), 2);
        x.put(0);
        due("24 it was", x.weeksFor(0), 0);
        due("24 pole then", x.weeksFor(1), 1);
        refused("24 motion 3", x, x.weeksFor(3), 1);
        String hard = "town grows 1 bald 0 shave 0;man a fair long 0 votes 1;motion p cuts 4 needs 1 worth 0;"
            + "motion q cuts 5 needs 1 worth 0";
        due("24 four", Tape.of(hard).weeksFor(0), 4);
        due("24 four are not enough", Tape.of(hard).weeksFor(1), -2);
    }

    // ---- votes, sides

    private void turns() {
        BarberMinutes x = Tape.of(TOWN);
        int[] of5 = {1, 0, 1, 3};
        int[] of3 = {2, 0, 0, 2};
        for (int m = 0; m < 4; m++) {
            due("25 turns for 5 of " + m, x.swings(m, 5), of5[m]);
            due("25 turns for 3 of " + m, x.swings(m, 3), of3[m]);
            due("25 turns for 0 of " + m, x.swings(m, 0), 0);
        }
        due("26 for 5", x.mighty(5), 3);
        due("26 for 3, the first such", x.mighty(3), 0);
        due("26 nobody", x.mighty(9), -2);
        due("26 for 0", x.mighty(0), -2);
        due("27 for 5", x.outvoted(5), 0);
        due("27 for 3", x.outvoted(3), 4);
        due("27 for 54", x.outvoted(54), 13);
        refused("25 needs 55", x, x.swings(0, 55), 2);
        refused("25 needs -1", x, x.swings(0, -1), 2);
        refused("25 man 4", x, x.swings(4, 55), 1);
        refused("26 needs 55", x, x.mighty(55), 2);
        refused("27 needs -1", x, x.outvoted(-1), 2);
        BarberMinutes none = new BarberMinutes();
        refused("25 no town", none, none.swings(0, 0), 1);
        refused("26 no town", none, none.mighty(55), 1);
        refused("27 no town", none, none.outvoted(0), 1);
    }

    private void benches() {
        BarberMinutes x = Tape.of(TOWN);
        due("28 nobody is needed", x.bench(0), 0);
        due("28 the least single one", x.bench(1), 1);
        due("28 dan", x.bench(4), 8);
        due("28 abe and dan", x.bench(5), 9);
        due("28 all", x.bench(8), 13);
        due("28 not enough", x.bench(9), -2);
        refused("28 needs 55", x, x.bench(55), 2);
        refused("28 needs -1", x, x.bench(-1), 2);
        BarberMinutes none = new BarberMinutes();
        refused("28 no town", none, none.bench(-1), 1);
    }

    private void sides() {
        BarberMinutes x = Tape.of(TOWN);
        due("29 parting", x.parting(), 2);
        due("30 left", x.left(), 1);
        due("31 peace", x.peace(), 3);
        BarberMinutes quiet = Tape.of(HEAD + MEN);
        due("29 no quarrel", quiet.parting(), 0);
        due("30 no quarrel", quiet.left(), 0);
        due("31 no quarrel", quiet.peace(), 0);
        BarberMinutes row = Tape.of(HEAD + MEN + ";quarrel abe dan;quarrel dan bob;quarrel dan cy");
        due("29 dan alone", row.parting(), 8);
        due("30 none left", row.left(), 0);
        due("31 dan alone", row.peace(), 8);
        BarberMinutes none = new BarberMinutes();
        refused("29 no town", none, none.parting(), 1);
        refused("30 no town", none, none.left(), 1);
        refused("31 no town", none, none.peace(), 1);
    }

    // ---- the round

    private void rounds() {
        BarberMinutes x = Tape.of(TOWN);
        int[][] far = {{0, 50, 10, 40}, {50, 0, 40, 10}, {10, 40, 0, 50}, {40, 10, 50, 0}};
        int[] order = {0, 2, 1, 3};
        for (int c = 0; c < 4; c++) {
            for (int other = 0; other < 4; other++) {
                due("32 apart " + c + " " + other, x.apart(c, other), far[c][other]);
            }
            due("34 round at " + c, x.roundAt(c), order[c]);
        }
        due("33 round", x.round(), 100);
        refused("32 chair 4", x, x.apart(0, 4), 1);
        refused("32 chair -1", x, x.apart(-1, 0), 1);
        refused("34 at 4", x, x.roundAt(4), 1);
        refused("34 at -1", x, x.roundAt(-1), 1);
        BarberMinutes one = Tape.of(SMALL + ";chair c at 40");
        due("33 one chair", one.round(), 0);
        due("34 one chair", one.roundAt(0), 0);
        BarberMinutes two = Tape.of(SMALL + ";chair c at 95;chair d at 5");
        due("33 two chairs", two.round(), 20);
        due("34 two chairs", two.roundAt(1), 1);
        BarberMinutes near = Tape.of(SMALL + ";chair c at 5;chair d at 20;chair e at 10;chair f at 15");
        due("33 there and back", near.round(), 30);
        int[] first = {0, 1, 3, 2};
        for (int i = 0; i < 4; i++) {
            due("34 the first order", near.roundAt(i), first[i]);
        }
        due("33 no chair", Tape.of(SMALL).round(), 0);
        BarberMinutes none = new BarberMinutes();
        refused("32 no town", none, none.apart(0, 0), 1);
        refused("33 no town", none, none.round(), 1);
        refused("34 no town", none, none.roundAt(0), 1);
    }

    // ---- the floor

    private void floors() {
        BarberMinutes x = Tape.of(TOWN);
        x.put(0);
        x.week();
        due("35 from how it was told", x.fits(), 1);
        due("36 well", x.fitAt(0), 1);
        due("37 could", x.could(), 1);
        due("38 surely", x.surely(), 1);
        refused("36 at 1", x, x.fitAt(1), 1);
        refused("36 at -1", x, x.fitAt(-1), 1);
        BarberMinutes odd = Tape.of(HEAD + MEN + MOTIONS + ";heap fair 1");
        due("35 none", odd.fits(), 0);
        due("37 none", odd.could(), 0);
        due("38 none", odd.surely(), 0);
        refused("36 none", odd, odd.fitAt(0), 1);
        BarberMinutes amended = Tape.of(HEAD + MEN + MOTIONS + ";amends rum pole;amends rum well;heap fair 2;heap grey 1");
        due("35 amended or not", amended.fits(), 1);
        due("36 amended or not", amended.fitAt(0), 4);
        BarberMinutes bare = Tape.of(HEAD + MEN + MOTIONS);
        due("35 without a heap nothing fell", bare.fits(), 1);
        due("36 without a heap nothing was put", bare.fitAt(0), 0);
        BarberMinutes none = new BarberMinutes();
        refused("35 no town", none, none.fits(), 1);
        refused("36 no town", none, none.fitAt(0), 1);
        refused("37 no town", none, none.could(), 1);
        refused("38 no town", none, none.surely(), 1);
    }

    private void asks() {
        BarberMinutes x = Tape.of("town grows 0 bald 0 shave 0;man a fair long 9 votes 0;motion p cuts 1 needs 0 worth 0;"
            + "motion q cuts 2 needs 0 worth 0;motion r cuts 3 needs 0 worth 0;motion s cuts 3 needs 0 worth 0;heap fair 6");
        // p q r, p q s, r s
        int[] sets = {7, 11, 12};
        due("35 three", x.fits(), 3);
        for (int i = 0; i < 3; i++) {
            due("36 by bits", x.fitAt(i), sets[i]);
        }
        due("37 all", x.could(), 15);
        due("38 none", x.surely(), 0);
        due("39 the first such", x.ask(), 0);
        due("40 at most", x.askLeaves(), 2);
        BarberMinutes y = Tape.of("town grows 0 bald 0 shave 0;man a fair long 9 votes 0;motion p cuts 2 needs 0 worth 0;"
            + "motion q cuts 1 needs 0 worth 0;motion r cuts 1 needs 0 worth 0;heap fair 3");
        due("38 p is in both", y.surely(), 1);
        due("39 not p", y.ask(), 1);
        due("40 one", y.askLeaves(), 1);
        due("39 no fits", Tape.of(SMALL + ";motion p cuts 1 needs 0 worth 0;heap fair 1").ask(), -2);
        due("40 no fits", Tape.of(SMALL + ";motion p cuts 1 needs 0 worth 0;heap fair 1").askLeaves(), -2);
        due("39 no motion", Tape.of(SMALL).ask(), -2);
        due("40 no motion", Tape.of(SMALL).askLeaves(), -2);
        BarberMinutes none = new BarberMinutes();
        refused("39 no town", none, none.ask(), 1);
        refused("40 no town", none, none.askLeaves(), 1);
    }

    // ---- a speaker, a strop

    private void speaker() {
        BarberMinutes x = Tape.of(SMALL);
        for (int lather = 0; lather < 10; lather++) {
            due("41 both talk", x.talk(lather, false, false, false), 2);
            due("41 both talk, the strop", x.talk(lather, false, false, true), 2);
            due("41 who shaves alone", x.talk(lather, true, false, false), 4);
            due("41 the other one", x.talk(lather, true, false, true), -lather);
            due("41 the speaker talks alone", x.talk(lather, false, true, false), -lather);
            due("41 the strop shaves alone", x.talk(lather, false, true, true), 4);
            due("41 both shave", x.talk(lather, true, true, false), 1);
            due("41 both shave, the strop", x.talk(lather, true, true, true), 1);
            due("42 rests", x.rests(lather), 1);
            due("43 rest", x.rest(lather), 11);
        }
        refused("41 lather 10", x, x.talk(10, true, true, true), -100, 2);
        refused("41 lather -1", x, x.talk(-1, true, true, true), -100, 2);
        refused("42 lather 10", x, x.rests(10), 2);
        refused("43 lather -1", x, x.rest(-1), 2);
        BarberMinutes none = new BarberMinutes();
        refused("41 no town", none, none.talk(10, true, true, true), -100, 1);
        refused("42 no town", none, none.rests(10), 1);
        refused("43 no town", none, none.rest(0), 1);
    }

    // ---- shaves

    private void chances() {
        BarberMinutes x = Tape.of(TOWN);
        long[][] want = {{9, 16, 5, 1}, {1, 4, 2, 1}, {1, 8, 9, 2}};
        for (int k = 0; k < 3; k++) {
            due("44 upper of " + k, x.odds(k, false), want[k][0]);
            due("44 lower of " + k, x.odds(k, true), want[k][1]);
            due("45 upper of " + k, x.mean(k, false), want[k][2]);
            due("45 lower of " + k, x.mean(k, true), want[k][3]);
        }
        due("56 not refused", x.trouble(), 0);
        refused("44 motion 3", x, x.odds(3, false), 1);
        refused("45 motion -1", x, x.mean(-1, true), 1);
        BarberMinutes six = Tape.of("town grows 0 bald 0 shave 99;man a fair long 9 votes 9;man b fair long 9 votes 9;"
            + "man c fair long 9 votes 9;man d fair long 9 votes 9;man e fair long 9 votes 9;man f fair long 9 votes 9;"
            + "motion p cuts 9 needs 54 worth 0;motion q cuts 10 needs 1 worth 0;motion r cuts 10 needs 0 worth 0");
        due("44 all six stay", six.odds(0, false), 1);
        due("44 of a million million", six.odds(0, true), 1000000000000L);
        due("44 never", six.odds(1, false), 0);
        due("44 by 1", six.odds(1, true), 1);
        due("44 ever", six.odds(2, false), 1);
        due("44 ever by 1", six.odds(2, true), 1);
        due("45 mean", six.mean(0, false), 27);
        due("45 mean by", six.mean(0, true), 50);
        due("45 none", six.mean(1, false), 0);
        due("45 none by 1", six.mean(1, true), 1);
    }

    private void draws() {
        BarberMinutes x = Tape.of(TOWN);
        // from 0 the draws are 74, 5624, 28652, 51790: the second man alone is shaved
        int[] hair = {12, 0, 22, 9};
        for (int m = 0; m < 4; m++) {
            due("46 behind one week " + m, x.shaves(m, 0, 1), hair[m]);
        }
        due("46 behind none", x.shaves(0, 0, 0), 10);
        due("46 nothing changed", x.man(1, 1), 4);
        due("47 behind one", x.carries(0, 0, 1), 1);
        due("47 behind none", x.carries(2, 0, 1), 0);
        due("47 of none", x.carries(0, 0, 0), 0);
        BarberMinutes sure = Tape.of("town grows 3 bald 0 shave 0;man a fair long 0 votes 1;"
            + "motion p cuts 7 needs 1 worth 0");
        due("46 nobody is ever shaved", sure.shaves(0, 65536, 60), 180);
        due("47 behind eight of ten", sure.carries(0, 5, 10), 8);
        due("47 behind the last of three", sure.carries(0, 5, 3), 1);
        due("47 behind none of two", sure.carries(0, 5, 2), 0);
        BarberMinutes ever = Tape.of("town grows 3 bald 0 shave 100;man a fair long 9 votes 1");
        due("46 ever shaved", ever.shaves(0, 7, 1), 0);
        refused("46 man 4", x, x.shaves(4, -1, 0), 1);
        refused("46 seed 65537", x, x.shaves(0, 65537, 0), 2);
        refused("46 seed -1", x, x.shaves(0, -1, 0), 2);
        refused("46 weeks 61", x, x.shaves(0, 0, 61), 2);
        refused("46 weeks -1", x, x.shaves(0, 0, -1), 2);
        refused("47 motion 3", x, x.carries(3, -1, 0), 1);
        refused("47 seed 65537", x, x.carries(0, 65537, 0), 2);
        refused("47 weeks 61", x, x.carries(0, 0, 61), 2);
        refused("47 weeks -1", x, x.carries(0, 0, -1), 2);
    }

    // ---- acts

    private void puts() {
        BarberMinutes x = Tape.of(TOWN);
        refused("48 what it amends was not", x, x.put(1), 5);
        due("48 carried", x.put(0), 1);
        due("56 not refused", x.trouble(), 0);
        refused("48 carried already", x, x.put(0), 5);
        int[] hair = {7, 4, 17, 4};
        for (int m = 0; m < 4; m++) {
            due("48 cut " + m, x.man(m, 1), hair[m]);
        }
        due("48 put and not carried", x.put(1), 0);
        due("48 it cuts all the same", x.man(2, 1), 9);
        due("48 and falls", x.floor(2), 11);
        due("48 it may be put again", x.motion(1, 5), 1);
        refused("48 motion 3", x, x.put(3), 1);
        refused("48 motion -1", x, x.put(-1), 1);
    }

    private void weeksAndShaves() {
        BarberMinutes x = Tape.of(HEAD + MEN + ";man eve grey long 1 votes 0");
        due("49 who is bald then", x.week(), 16);
        due("49 grown", x.man(0, 1), 12);
        due("55 a week", x.size(10), 1);
        BarberMinutes none = new BarberMinutes();
        refused("49 no town", none, none.week(), 1);
        due("50 what comes off", x.shave(2), 22);
        due("50 falls", x.floor(2), 22);
        due("50 he is bald", x.man(2, 3), 1);
        refused("50 nothing would", x, x.shave(2), 5);
        refused("50 man 5", x, x.shave(5), 1);
        refused("50 man -1", x, x.shave(-1), 1);
        BarberMinutes tall = Tape.of("town grows 9 bald 0 shave 0;man a fair long 99 votes 0");
        for (int i = 0; i < 15; i++) {
            tall.week();
        }
        due("49 200 at most", tall.man(0, 1), 200);
    }

    private void undoing() {
        BarberMinutes x = Tape.of(TOWN);
        x.put(0);
        x.week();
        x.shave(0);
        due("55 three acts", x.size(11), 3);
        due("51 the shave", x.undo(), true);
        due("51 grown again", x.man(0, 1), 9);
        due("51 off the floor", x.floor(0), 6);
        due("51 the week", x.undo(), true);
        due("51 no week", x.size(10), 0);
        due("51 the motion", x.undo(), true);
        due("51 not carried", x.motion(0, 4), 0);
        due("51 nothing fell", x.floor(0), 0);
        due("51 as it was", x.man(3, 1), 7);
        due("56 not refused", x.trouble(), 0);
        refused("51 nothing more", x, x.undo() ? 1 : 0, 0, 6);
        for (int i = 0; i < 20; i++) {
            x.week();
        }
        due("55 16 are kept", x.size(11), 16);
        for (int i = 0; i < 16; i++) {
            due("51 undo " + i, x.undo(), true);
        }
        due("51 four weeks stay", x.size(10), 4);
        due("51 their hair stays", x.man(0, 1), 18);
        refused("51 no more than 16", x, x.undo() ? 1 : 0, 0, 6);
        x.week();
        Tape.town(x, SMALL);
        refused("3 nothing to undo in a new town", x, x.undo() ? 1 : 0, 0, 6);
    }

    private void images() {
        BarberMinutes x = Tape.of(TOWN);
        due("52 the first", x.image(), 0);
        x.put(0);
        x.week();
        due("52 the second", x.image(), 1);
        x.shave(2);
        due("52 the third", x.image(), 2);
        refused("52 no room", x, x.image(), 3);
        due("55 images", x.size(12), 3);
        due("53 back to the second", x.back(1), true);
        due("56 not refused", x.trouble(), 0);
        due("53 hair", x.man(2, 1), 19);
        due("53 weeks", x.size(10), 1);
        due("53 carried", x.motion(0, 4), 1);
        due("53 floor", x.floor(2), 3);
        refused("53 nothing can be undone", x, x.undo() ? 1 : 0, 0, 6);
        due("53 all images stay", x.size(12), 3);
        due("53 back to the third", x.back(2), true);
        due("53 shaved", x.man(2, 1), 0);
        due("53 back to the first", x.back(0), true);
        due("53 nothing carried", x.motion(0, 4), 0);
        x.put(0);
        due("53 an image stays as it is", x.back(0), true);
        due("53 as at first", x.man(0, 1), 10);
        refused("53 no fourth", x, x.back(3) ? 1 : 0, 0, 1);
        refused("53 below", x, x.back(-1) ? 1 : 0, 0, 1);
        Tape.town(x, SMALL);
        refused("3 no images in a new town", x, x.back(0) ? 1 : 0, 0, 1);
        due("55 no images", x.size(12), 0);
        BarberMinutes none = new BarberMinutes();
        refused("52 no town", none, none.image(), 1);
    }

    // ---- what is told

    private void ledAndSize() {
        BarberMinutes x = Tape.of(SMALL + ";motion p cuts 1 needs 0 worth 0;motion q cuts 1 needs 0 worth 0;"
            + "motion r cuts 1 needs 0 worth 0");
        led("54 none", x, 0, "none such");
        x.put(2);
        x.put(0);
        x.man(9, 9);
        led("54 by numbers", x, 0, "0");
        led("54 the other", x, 1, "2");
        led("54 no third", x, 2, "none such");
        led("54 below", x, -1, "none such");
        due("56 led tells no trouble", x.trouble(), 1);
        BarberMinutes y = Tape.of(TOWN);
        y.put(0);
        y.week();
        y.image();
        y.man(9, 9);
        y.feed(0, 0, 0, 0, 0);
        int[] sizes = {2, 5, 50, 4, 3, 2, 2, 3, 4, 2, 1, 2, 1, 20};
        for (int what = 0; what < 14; what++) {
            due("55 size " + what, y.size(what), sizes[what]);
        }
        due("55 size 14", y.size(14), -1);
        due("55 size -1", y.size(-1), -1);
        due("56 size tells no trouble", y.trouble(), 1);
    }

    private void troubles() {
        BarberMinutes x = Tape.of(TOWN);
        x.shave(9);
        due("56 1", x.trouble(), 1);
        x.trouble();
        x.fault();
        x.where();
        due("56 it stays", x.trouble(), 1);
        x.bald();
        due("56 0", x.trouble(), 0);
        x.longIn(0, 99);
        due("56 2", x.trouble(), 2);
        x.bench(9);
        due("56 -2 is no refusal", x.trouble(), 0);
        x.undo();
        due("56 6", x.trouble(), 6);
        x.week();
        x.put(1);
        due("56 5", x.trouble(), 5);
        x.undo();
        due("56 undone", x.trouble(), 0);
    }
}
