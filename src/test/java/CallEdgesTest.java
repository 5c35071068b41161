/** Each sentence of promises 6 to 47 that names an edge: the last value taken, the first refused, answers and TROUBLE. */
public final class CallEdgesTest extends Asking {
    /** Full of men, motions and chairs; d is bald, e as long as bald is; p, r and t have just what they need. */
    private static final String FULL = "town grows 1 bald 5 shave 10;man a fair long 10 votes 1;"
        + "man b dark long 20 votes 2;man c grey long 30 votes 3;man d fair long 4 votes 4;man e dark long 5 votes 5;"
        + "man f grey long 60 votes 6;motion p cuts 5 needs 17 worth 10;motion q cuts 6 needs 13 worth 20;"
        + "motion r cuts 10 needs 12 worth 30;motion s cuts 20 needs 12 worth 40;motion t cuts 30 needs 9 worth 50;"
        + "against a t;amends t p;quarrel a f;chair g at 0;chair h at 99;chair i at 50;chair j at 51;chair k at 25";
    private static final String NINES = "town grows 0 bald 0 shave 1;man a fair long 9 votes 9;man b fair long 9 votes 9;"
        + "man c fair long 9 votes 9;man d fair long 9 votes 9;man e fair long 9 votes 9;man f fair long 9 votes 9;"
        + "motion p cuts 9 needs 54 worth 1";
    /** Nobody ever says yes to any of five motions. */
    private static final String DEAF = "town grows 0 bald 0 shave 0;man a fair long 0 votes 9;"
        + "motion p cuts 1 needs 1 worth 1;motion q cuts 1 needs 1 worth 1;motion r cuts 1 needs 1 worth 1;"
        + "motion s cuts 1 needs 1 worth 1;motion t cuts 1 needs 1 worth 1";
    private static final int NONE = BarberMinutes.NONE;
    private static final int MIN = Integer.MIN_VALUE;
    private static final int MAX = Integer.MAX_VALUE;

    private CallEdgesTest() {
        super("call edges");
    }

    public static void main(String[] args) {
        CallEdgesTest test = new CallEdgesTest();
        test.noTown();
        test.oneManAlone();
        test.men();
        test.motions();
        test.baldOrNot();
        test.sayingYes();
        test.justEnough();
        test.longestOfLike();
        test.amendments();
        test.weeksToCome();
        test.hairAtMost();
        test.inHowManyWeeks();
        test.soonestOfLike();
        test.agendaWeeks();
        test.rows();
        test.bestOfLike();
        test.fewestWeeks();
        test.needsOfTurns();
        test.turnsJustEnough();
        test.baldHaveNoTurns();
        test.benches();
        test.sides();
        test.peace();
        test.chairs();
        test.wrapAround();
        test.fewChairs();
        test.noFits();
        test.oneFit();
        test.allFits();
        test.putByNumbers();
        test.heapsJustSo();
        test.lather();
        test.motionsByChance();
        test.chanceNoneAndAll();
        test.lowestTerms();
        test.seeds();
        test.drawsJustBelow();
        test.drawsInOrder();
        test.weeksOfDraws();
        test.refusalsOfTwoArguments();
        test.end();
    }

    // ---- 1: no town

    private void noTown() {
        String[] faulty = {"", "town grows 0 bald 0 shave 0"};
        for (String text : faulty) {
            BarberMinutes x = new BarberMinutes();
            Tape.town(x, text);
            for (int a : new int[] {0, 1, -1, 99}) {
                ofNumbers(x, a);
                ofMoreNumbers(x, a);
            }
            refused("9 no town", x, x.bald(), 1);
            refused("10 no town", x, x.longest(), 1);
            refused("11 no town", x, x.ready(), 1);
            refused("12 no town", x, x.quorum(), 1);
            refused("18 no town", x, x.hairyIn(), 1);
            refused("19 no town", x, x.soonest(), 1);
            refused("29 no town", x, x.parting(), 1);
            refused("30 no town", x, x.left(), 1);
            refused("31 no town", x, x.peace(), 1);
            refused("33 no town", x, x.round(), 1);
            refused("35 no town", x, x.fits(), 1);
            refused("37 no town", x, x.could(), 1);
            refused("38 no town", x, x.surely(), 1);
            refused("39 no town", x, x.ask(), 1);
            refused("40 no town", x, x.askLeaves(), 1);
            refused("49 no town", x, x.week(), 1);
            refused("52 no town", x, x.image(), 1);
            refused("51 no town", x, x.undo() ? 1 : 0, 0, 6);
        }
    }

    private void ofNumbers(BarberMinutes x, int a) {
        refused("6 no town " + a, x, x.man(a, a), 1);
        refused("7 no town " + a, x, x.motion(a, a), 1);
        refused("8 no town " + a, x, x.floor(a), 1);
        refused("13 no town " + a, x, x.behind(a), 1);
        refused("14 no town " + a, x, x.depth(a), 1);
        refused("15 no town " + a, x, x.longIn(a, a), 1);
        refused("16 no town " + a, x, x.yesIn(a, a), 1);
        refused("17 no town " + a, x, x.carryIn(a), 1);
        refused("20 no town " + a, x, x.worthOf(a, a), 1);
        refused("21 no town " + a, x, x.bestRow(a), 1);
        refused("22 no town " + a, x, x.bestWorth(a), 1);
        refused("23 no town " + a, x, x.bestCarried(a), 1);
        refused("24 no town " + a, x, x.weeksFor(a), 1);
        refused("25 no town " + a, x, x.swings(a, a), 1);
        refused("26 no town " + a, x, x.mighty(a), 1);
        refused("27 no town " + a, x, x.outvoted(a), 1);
        refused("28 no town " + a, x, x.bench(a), 1);
    }

    private void ofMoreNumbers(BarberMinutes x, int a) {
        refused("32 no town " + a, x, x.apart(a, a), 1);
        refused("34 no town " + a, x, x.roundAt(a), 1);
        refused("36 no town " + a, x, x.fitAt(a), 1);
        refused("41 no town " + a, x, x.talk(a, false, false, false), -100, 1);
        refused("42 no town " + a, x, x.rests(a), 1);
        refused("43 no town " + a, x, x.rest(a), 1);
        refused("44 no town " + a, x, x.odds(a, false), 1);
        refused("45 no town " + a, x, x.mean(a, false), 1);
        refused("46 no town " + a, x, x.shaves(a, a, a), 1);
        refused("47 no town " + a, x, x.carries(a, a, a), 1);
        refused("48 no town " + a, x, x.put(a), 1);
        refused("50 no town " + a, x, x.shave(a), 1);
        refused("53 no town " + a, x, x.back(a) ? 1 : 0, 0, 1);
    }

    /** A town of one man without hair, without motions, chairs and heaps: the fewest that there can be. */
    private void oneManAlone() {
        edges("6 the one man", SMALL, (x, m) -> x.man(m, 0), 0, 1, 0, 1, 1);
        Call[] ofMotion = {(x, k) -> x.motion(k, 0), (x, k) -> x.behind(k), (x, k) -> x.depth(k), (x, k) -> x.yesIn(k, 0),
            (x, k) -> x.carryIn(k), (x, k) -> x.weeksFor(k), (x, k) -> x.odds(k, false), (x, k) -> x.mean(k, true),
            (x, k) -> x.carries(k, 0, 0), (x, k) -> x.put(k), (x, k) -> x.roundAt(k), (x, k) -> x.apart(k, 0)};
        for (int i = 0; i < ofMotion.length; i++) {
            refusedAll("1 none such, call " + i, SMALL, ofMotion[i], NONE, 1, 0, -1, 1);
        }
        BarberMinutes x = Tape.of(SMALL);
        granted("11 no motion", x, x.ready(), 0);
        granted("9 bald below 0", x, x.bald(), 0);
        granted("10 the one man", x, x.longest(), 0);
        granted("12 no votes", x, x.quorum(), 0);
        granted("18 now", x, x.hairyIn(), 0);
        granted("19 no motion", x, x.soonest(), -2);
        granted("21 none in four weeks", x, x.bestRow(4), 0);
        granted("22 worth nothing", x, x.bestWorth(4), 0);
        granted("23 nothing", x, x.bestCarried(4), 0);
        granted("20 none in four weeks", x, x.worthOf(0, 4), 0);
        refused("20 no first motion", x, x.worthOf(1, 4), 2);
        granted("26 nobody", x, x.mighty(1), -2);
        granted("27 the one man", x, x.outvoted(1), 1);
        granted("28 nobody is needed", x, x.bench(0), 0);
        granted("28 one vote", x, x.bench(1), -2);
    }

    // ---- now

    private void men() {
        edges("6 man", FULL, (x, m) -> x.man(m, 1), 0, 10, 5, 60, 1);
        edges("6 what", FULL, (x, what) -> x.man(0, what), 0, 0, 6, 7, 1);
        edges("6 what of the last", FULL, (x, what) -> x.man(5, what), 0, 2, 6, 31, 1);
        edges("8 floor", FULL, (x, c) -> x.floor(c), 0, 0, 2, 0, 1);
        BarberMinutes x = Tape.of(FULL);
        x.shave(0);
        x.shave(1);
        x.shave(2);
        granted("8 fair", x, x.floor(0), 10);
        granted("8 dark", x, x.floor(1), 20);
        granted("8 grey, the last", x, x.floor(2), 30);
        refused("8 a fourth", x, x.floor(3), 1);
    }

    private void motions() {
        edges("7 motion", FULL, (x, k) -> x.motion(k, 0), 0, 5, 4, 30, 1);
        edges("7 what", FULL, (x, what) -> x.motion(0, what), 0, 5, 7, 55, 1);
        edges("7 what of the last", FULL, (x, what) -> x.motion(4, what), 0, 30, 7, 36, 1);
        edges("13 behind", FULL, (x, k) -> x.behind(k), 0, 16, 4, 0, 1);
        edges("14 depth", FULL, (x, k) -> x.depth(k), 0, 1, 4, 2, 1);
        BarberMinutes x = Tape.of(FULL);
        granted("11 p and r, but not t that amends p", x, x.ready(), 5);
        granted("12 without d", x, x.quorum(), 17);
    }

    /** BALD: LONG is less than bald. */
    private void baldOrNot() {
        BarberMinutes x = Tape.of("town grows 1 bald 20 shave 0;man a fair long 19 votes 1;man b fair long 20 votes 2;"
            + "man c fair long 21 votes 4");
        granted("6 one less", x, x.man(0, 3), 1);
        granted("6 just so long", x, x.man(1, 3), 0);
        granted("9 one alone", x, x.bald(), 1);
        granted("12 the others", x, x.quorum(), 6);
        granted("49 grown", x, x.week(), 0);
        granted("12 all", x, x.quorum(), 7);
        x.shave(2);
        granted("9 who was shaved", x, x.bald(), 4);
        BarberMinutes never = Tape.of("town grows 0 bald 0 shave 0;man a fair long 0 votes 1");
        granted("6 nobody is less than 0", never, never.man(0, 3), 0);
        granted("9 nobody", never, never.bald(), 0);
    }

    /** He isn't BALD, isn't against it, and is as LONG as it cuts at least. */
    private void sayingYes() {
        String men = "town grows 0 bald 6 shave 0;man a fair long 5 votes 1;man b fair long 6 votes 2;"
            + "man c fair long 7 votes 4;man d fair long 99 votes 8;motion p cuts 5 needs 0 worth 0;"
            + "motion q cuts 6 needs 0 worth 0;motion r cuts 7 needs 0 worth 0;motion s cuts 8 needs 0 worth 0;against d q";
        BarberMinutes x = Tape.of(men);
        int[] yes = {14, 6, 12, 8};
        int[] votes = {14, 6, 12, 8};
        for (int k = 0; k < 4; k++) {
            granted("7 who says yes to " + k, x, x.motion(k, 7), yes[k]);
            granted("7 YES of " + k, x, x.motion(k, 6), votes[k]);
        }
        int[] of = {0, 3, 7, 13};
        for (int m = 0; m < 4; m++) {
            granted("6 to which says yes " + m, x, x.man(m, 6), of[m]);
        }
    }

    /** CARRIED if YES is needs or more: just as many, one fewer, and none at all. */
    private void justEnough() {
        String town = "town grows 0 bald 0 shave 0;man a fair long 9 votes 3;man b fair long 9 votes 2;"
            + "motion p cuts 1 needs 4 worth 7;motion q cuts 1 needs 5 worth 8;motion r cuts 1 needs 6 worth 9;"
            + "motion s cuts 30 needs 0 worth 6;motion t cuts 30 needs 1 worth 5";
        int[] enough = {1, 1, 0, 1, 0};
        int[] worth = {7, 8, 0, 6, 0};
        for (int k = 0; k < 5; k++) {
            BarberMinutes x = Tape.of(town);
            granted("11 ready " + k, x, x.ready() >> k & 1, enough[k]);
            granted("17 carryIn " + k, x, x.carryIn(k), enough[k] == 1 ? 0 : -2);
            granted("20 worth " + k, x, x.worthOf(k + 1, 1), worth[k]);
            granted("24 weeks " + k, x, x.weeksFor(k), enough[k] == 1 ? 1 : -2);
            granted("44 odds " + k, x, x.odds(k, false), enough[k]);
            granted("47 carries " + k, x, x.carries(k, 0, 3), 3 * enough[k]);
            granted("48 put " + k, x, x.put(k), enough[k]);
            granted("7 was carried " + k, x, x.motion(k, 4), enough[k]);
            granted("7 may be put " + k, x, x.motion(k, 5), 1 - enough[k]);
        }
    }

    private void longestOfLike() {
        BarberMinutes x = Tape.of("town grows 0 bald 0 shave 0;man a fair long 7 votes 0;man b fair long 8 votes 0;"
            + "man c fair long 8 votes 0");
        granted("10 the first such", x, x.longest(), 1);
        x.shave(1);
        granted("10 the other", x, x.longest(), 2);
        x.shave(2);
        x.shave(0);
        granted("10 all without", x, x.longest(), 0);
    }

    private void amendments() {
        String five = "town grows 0 bald 0 shave 0;man a fair long 0 votes 0;motion p cuts 1 needs 0 worth 0;"
            + "motion q cuts 1 needs 0 worth 0;motion r cuts 1 needs 0 worth 0;motion s cuts 1 needs 0 worth 0;"
            + "motion t cuts 1 needs 0 worth 0";
        String row = five + ";amends q p;amends r q;amends s r;amends t s";
        edges("13 of a row", row, (x, k) -> x.behind(k), 0, 30, 4, 0, 1);
        edges("14 of a row", row, (x, k) -> x.depth(k), 0, 1, 4, 5, 1);
        edges("13 without amendments", five, (x, k) -> x.behind(k), 0, 0, 4, 0, 1);
        edges("14 without amendments", five, (x, k) -> x.depth(k), 0, 1, 4, 1, 1);
        BarberMinutes x = Tape.of(five + ";amends r p;amends r q");
        refused("48 neither was", x, x.put(2), 5);
        x.put(0);
        refused("48 one was", x, x.put(2), 5);
        granted("7 may not", x, x.motion(2, 5), 0);
        granted("11 nor is it ready", x, x.ready(), 26);
        x.put(1);
        granted("7 may", x, x.motion(2, 5), 1);
        granted("48 all were", x, x.put(2), 1);
        refused("48 it was", x, x.put(2), 5);
    }

    // ---- weeks to come

    private void weeksToCome() {
        edges("15 man", FULL, (x, m) -> x.longIn(m, 1), 0, 11, 5, 61, 1);
        edges("15 weeks", FULL, (x, n) -> x.longIn(0, n), 0, 10, 60, 70, 2);
        edges("16 motion", FULL, (x, k) -> x.yesIn(k, 0), 0, 17, 4, 9, 1);
        edges("16 weeks", FULL, (x, n) -> x.yesIn(4, n), 0, 9, 60, 20, 2);
        edges("17 motion", FULL, (x, k) -> x.carryIn(k), 0, 0, 4, 0, 1);
        BarberMinutes x = Tape.of(FULL);
        granted("16 d is bald", x, x.yesIn(0, 0), 17);
        granted("16 d is not", x, x.yesIn(0, 1), 21);
        granted("17 in a week", x, x.carryIn(1), 1);
        granted("18 in a week", x, x.hairyIn(), 1);
        due("15 nothing changes", seen(x), seen(Tape.of(FULL)));
    }

    /** A WEEK: grows more, 200 at most. */
    private void hairAtMost() {
        String tall = "town grows 9 bald 0 shave 0;man a fair long 99 votes 0;man b fair long 92 votes 0;"
            + "man c fair long 93 votes 0";
        int[][] want = {{198, 191, 192}, {200, 200, 200}, {200, 200, 200}};
        for (int m = 0; m < 3; m++) {
            BarberMinutes x = Tape.of(tall);
            for (int n = 11; n <= 13; n++) {
                granted("15 in " + n, x, x.longIn(m, n), want[n - 11][m]);
                granted("46 in " + n, x, x.shaves(m, 5, n), want[n - 11][m]);
            }
            granted("15 in 60", x, x.longIn(m, 60), 200);
            for (int n = 1; n <= 13; n++) {
                x.week();
                if (n > 10) {
                    granted("49 behind " + n, x, x.man(m, 1), want[n - 11][m]);
                }
            }
            granted("50 all of it", x, x.shave(m), 200);
        }
    }

    private void inHowManyWeeks() {
        String slow = "town grows 1 bald 0 shave 0;man a fair long 0 votes 1;motion p cuts 30 needs 1 worth 0;"
            + "motion q cuts 1 needs 2 worth 0;motion r cuts 1 needs 0 worth 0";
        BarberMinutes x = Tape.of(slow);
        granted("16 one short", x, x.yesIn(0, 29), 0);
        granted("16 just so long", x, x.yesIn(0, 30), 1);
        granted("17 in thirty", x, x.carryIn(0), 30);
        granted("17 never", x, x.carryIn(1), -2);
        granted("17 now", x, x.carryIn(2), 0);
        x.put(2);
        granted("17 it was carried, and YES is enough", x, x.carryIn(2), 0);
        BarberMinutes bald = Tape.of("town grows 1 bald 20 shave 0;man a fair long 20 votes 1;man b fair long 1 votes 1");
        granted("18 in nineteen", bald, bald.hairyIn(), 19);
        bald.shave(1);
        granted("18 in twenty", bald, bald.hairyIn(), 20);
        BarberMinutes none = Tape.of("town grows 0 bald 1 shave 0;man a fair long 0 votes 1");
        granted("18 never", none, none.hairyIn(), -2);
    }

    private void soonestOfLike() {
        String town = "town grows 1 bald 0 shave 0;man a fair long 5 votes 1;motion p cuts 7 needs 1 worth 0;"
            + "motion q cuts 6 needs 1 worth 0;motion r cuts 6 needs 1 worth 0";
        BarberMinutes x = Tape.of(town);
        granted("19 the first such", x, x.soonest(), 1);
        BarberMinutes y = Tape.of(town + ";motion s cuts 1 needs 1 worth 0;amends s r");
        granted("19 s may not be put now", y, y.soonest(), 1);
        BarberMinutes z = Tape.of("town grows 0 bald 0 shave 0;man a fair long 5 votes 1;motion p cuts 6 needs 1 worth 0");
        granted("19 never", z, z.soonest(), -2);
    }

    // ---- agendas

    private void agendaWeeks() {
        edges("20 weeks", FULL, (x, n) -> x.worthOf(0, n), 1, 0, 4, 0, 2);
        edges("21 weeks", NINES, (x, n) -> x.bestRow(n), 1, 1, 4, 1, 2);
        edges("22 weeks", NINES, (x, n) -> x.bestWorth(n), 1, 1, 4, 1, 2);
        edges("23 weeks", NINES, (x, n) -> x.bestCarried(n), 1, 1, 4, 1, 2);
    }

    private void rows() {
        Call one = (x, row) -> x.worthOf(row, 1);
        Call four = (x, row) -> x.worthOf(row, 4);
        edges("20 a digit", DEAF, one, 0, 0, 5, 0, 2);
        refusedAll("20 a digit", DEAF, one, NONE, 2, 6, 7, 8, 9, 10, 11, 15, 100);
        taken("20 four digits", DEAF, four, 0, 0);
        taken("20 four digits", DEAF, four, 5, 0);
        taken("20 four digits", DEAF, four, 5000, 0);
        taken("20 four digits", DEAF, four, 5555, 0);
        refusedAll("20 four digits", DEAF, four, NONE, 2, 6, 60, 600, 6000, 5556, 5565, 5655, 6555, 9999, 10000, 15555,
            -1, -5, MIN, MAX);
        Call three = (x, row) -> x.worthOf(row, 3);
        taken("20 three digits", DEAF, three, 555, 0);
        refusedAll("20 three digits", DEAF, three, NONE, 2, 1000, 5000, 1555, 556);
        Call two = (x, row) -> x.worthOf(row, 2);
        taken("20 two digits", DEAF, two, 55, 0);
        refusedAll("20 two digits", DEAF, two, NONE, 2, 100, 500, 155, 56);
        // t amends p, and p is carried in the first week
        refusedAll("20 may not be put then", FULL, one, NONE, 5, 5);
        refusedAll("20 may not be put then", FULL, two, NONE, 5, 5, 50, 51, 11);
        // p takes 17 votes or more in the first week: then t may be put, but has 6 votes of 9
        taken("20 may be put then", FULL, two, 15, 10);
        taken("20 none, then p", FULL, two, 1, 10);
        refusedAll("20 carried in the first week", NINES, two, NONE, 5, 11);
        taken("20 once", NINES, two, 10, 1);
    }

    private void bestOfLike() {
        String like = "town grows 0 bald 0 shave 0;man a fair long 9 votes 1;motion p cuts 1 needs 1 worth 3;"
            + "motion q cuts 1 needs 1 worth 3;motion r cuts 1 needs 2 worth 99";
        taken("21 the first by numbers", like, (x, n) -> x.bestRow(n), 1, 1);
        taken("21 week by week", like, (x, n) -> x.bestRow(n), 2, 12);
        taken("21 none ahead of all", like, (x, n) -> x.bestRow(n), 4, 12);
        taken("22 of both", like, (x, n) -> x.bestWorth(n), 4, 6);
        String worthless = "town grows 0 bald 0 shave 0;man a fair long 9 votes 1;motion p cuts 1 needs 1 worth 0";
        taken("21 worth nothing: none", worthless, (x, n) -> x.bestRow(n), 4, 0);
        taken("22 worth nothing", worthless, (x, n) -> x.bestWorth(n), 4, 0);
        taken("23 nothing is carried", worthless, (x, n) -> x.bestCarried(n), 4, 0);
        BarberMinutes x = Tape.of(like);
        x.put(0);
        x.put(1);
        granted("21 all were", x, x.bestRow(4), 0);
        granted("22 nothing more", x, x.bestWorth(4), 0);
        granted("23 those ahead of it too", x, x.bestCarried(4), 3);
    }

    private void fewestWeeks() {
        edges("24 motion", DEAF, (x, k) -> x.weeksFor(k), 0, -2, 4, -2, 1);
        String slow = "town grows 1 bald 0 shave 0;man a fair long 0 votes 1;motion p cuts 1 needs 1 worth 0;"
            + "motion q cuts 4 needs 1 worth 0;motion r cuts 5 needs 1 worth 0;motion s cuts 3 needs 1 worth 0;"
            + "motion t cuts 4 needs 1 worth 0;amends s p;amends t p";
        BarberMinutes x = Tape.of(slow);
        int[] weeks = {1, 4, -2, 4, -2};
        for (int k = 0; k < 5; k++) {
            granted("24 of " + k, x, x.weeksFor(k), weeks[k]);
        }
        x.week();
        granted("24 p is carried", x, x.put(0), 1);
        granted("24 it was", x, x.weeksFor(0), 0);
        granted("24 s is left", x, x.weeksFor(3), 3);
        granted("24 t is left", x, x.weeksFor(4), 4);
    }

    // ---- votes, sides

    private void needsOfTurns() {
        edges("25 man", FULL, (x, m) -> x.swings(m, 17), 0, 1, 5, 1, 1);
        edges("25 needs", NINES, (x, needs) -> x.swings(0, needs), 0, 0, 54, 1, 2);
        edges("26 needs", NINES, (x, needs) -> x.mighty(needs), 0, -2, 54, 0, 2);
        edges("27 needs", NINES, (x, needs) -> x.outvoted(needs), 0, 63, 54, 0, 2);
        edges("28 needs", NINES, (x, needs) -> x.bench(needs), 0, 0, 54, 63, 2);
        taken("25 one", NINES, (x, needs) -> x.swings(0, needs), 1, 1);
        // 46 .. 54: all five others and he; 45: any four others and he are too few of them
        taken("25 46", NINES, (x, needs) -> x.swings(0, needs), 46, 1);
        taken("25 45", NINES, (x, needs) -> x.swings(0, needs), 45, 5);
    }

    /** Fewer without him, not fewer with him. */
    private void turnsJustEnough() {
        String two = "town grows 0 bald 0 shave 0;man a fair long 0 votes 3;man b fair long 0 votes 2;"
            + "man c fair long 0 votes 0";
        int[] ofA = {0, 2, 2, 4, 2, 2, 0};
        int[] ofB = {0, 2, 2, 0, 2, 2, 0};
        int[] mighty = {-2, 0, 0, 0, 0, 0, -2};
        int[] outvoted = {7, 4, 4, 6, 4, 4, 7};
        int[] bench = {0, 1, 1, 1, 3, 3, -2};
        for (int needs = 0; needs <= 6; needs++) {
            BarberMinutes x = Tape.of(two);
            granted("25 of a for " + needs, x, x.swings(0, needs), ofA[needs]);
            granted("25 of b for " + needs, x, x.swings(1, needs), ofB[needs]);
            granted("25 without votes for " + needs, x, x.swings(2, needs), 0);
            granted("26 for " + needs, x, x.mighty(needs), mighty[needs]);
            granted("27 for " + needs, x, x.outvoted(needs), outvoted[needs]);
            granted("28 for " + needs, x, x.bench(needs), bench[needs]);
        }
    }

    private void baldHaveNoTurns() {
        String some = "town grows 1 bald 5 shave 0;man a fair long 4 votes 9;man b fair long 5 votes 2;"
            + "man c fair long 6 votes 2";
        BarberMinutes x = Tape.of(some);
        granted("25 of the bald one", x, x.swings(0, 2), 0);
        granted("25 in no set of others", x, x.swings(1, 3), 1);
        granted("26 the first of like ones", x, x.mighty(3), 1);
        granted("27 the bald one isn't", x, x.outvoted(5), 6);
        granted("28 without the bald one", x, x.bench(4), 6);
        granted("28 all aren't enough", x, x.bench(5), -2);
        x.week();
        granted("25 grown", x, x.swings(0, 2), 1);
        granted("28 he alone", x, x.bench(5), 1);
    }

    private void benches() {
        BarberMinutes x = Tape.of("town grows 0 bald 0 shave 0;man a fair long 0 votes 1;man b fair long 0 votes 2;"
            + "man c fair long 0 votes 2;man d fair long 0 votes 3");
        granted("28 the least of like single ones", x, x.bench(2), 2);
        granted("28 a single one though of higher bits", x, x.bench(3), 8);
        granted("28 the least of like pairs", x, x.bench(4), 6);
        granted("28 a pair", x, x.bench(5), 10);
        granted("28 three", x, x.bench(6), 11);
        granted("28 all", x, x.bench(8), 15);
        granted("28 one too many", x, x.bench(9), -2);
    }

    private void sides() {
        String men = "town grows 0 bald 0 shave 0;man a fair long 0 votes 0;man b fair long 0 votes 0;"
            + "man c fair long 0 votes 0;man d fair long 0 votes 0";
        BarberMinutes one = Tape.of(SMALL);
        granted("29 one man", one, one.parting(), 0);
        granted("30 one man", one, one.left(), 0);
        BarberMinutes none = Tape.of(men);
        granted("29 no quarrels", none, none.parting(), 0);
        granted("30 no quarrels", none, none.left(), 0);
        BarberMinutes pair = Tape.of(men + ";quarrel b a");
        granted("29 the side without the first", pair, pair.parting(), 2);
        granted("30 none", pair, pair.left(), 0);
        BarberMinutes three = Tape.of(men + ";quarrel b c;quarrel c d;quarrel d b");
        granted("29 of like ones the least", three, three.parting(), 2);
        granted("30 one", three, three.left(), 1);
        BarberMinutes all = Tape.of(men + ";quarrel a b;quarrel a c;quarrel a d;quarrel b c;quarrel b d;quarrel c d");
        granted("29 two and two", all, all.parting(), 6);
        granted("30 two", all, all.left(), 2);
        BarberMinutes last = Tape.of(men + ";quarrel d a");
        granted("29 the last man alone", last, last.parting(), 8);
    }

    private void peace() {
        String men = "town grows 0 bald 0 shave 0;man a fair long 0 votes 0;man b fair long 0 votes 0;"
            + "man c fair long 0 votes 0;man d fair long 0 votes 0";
        String[] quarrels = {"", ";quarrel c d", ";quarrel a b;quarrel c d", ";quarrel d a;quarrel d b;quarrel d c",
            ";quarrel a b;quarrel b c;quarrel c a",
            ";quarrel a b;quarrel a c;quarrel a d;quarrel b c;quarrel b d;quarrel c d"};
        int[] want = {0, 4, 5, 8, 3, 7};
        for (int i = 0; i < want.length; i++) {
            BarberMinutes x = Tape.of(men + quarrels[i]);
            granted("31 " + quarrels[i], x, x.peace(), want[i]);
        }
        BarberMinutes one = Tape.of(SMALL);
        granted("31 one man", one, one.peace(), 0);
    }

    // ---- the round

    private void chairs() {
        edges("32 a chair", FULL, (x, c) -> x.apart(c, 0), 0, 0, 4, 25, 1);
        edges("32 the other", FULL, (x, c) -> x.apart(0, c), 0, 0, 4, 25, 1);
        edges("34 the i-th", FULL, (x, i) -> x.roundAt(i), 0, 0, 4, 4, 1);
        BarberMinutes x = Tape.of(FULL);
        granted("33 once round", x, x.round(), 100);
        int[] order = {0, 1, 3, 2, 4};
        for (int i = 0; i < 5; i++) {
            granted("34 of like ones the first order, " + i, x, x.roundAt(i), order[i]);
        }
    }

    /** The shorter way round the square, 100 in all. */
    private void wrapAround() {
        int[][] want = {{0, 0}, {1, 1}, {49, 49}, {50, 50}, {51, 49}, {99, 1}};
        for (int[] w : want) {
            BarberMinutes x = Tape.of(SMALL + ";chair c at 0;chair d at " + w[0]);
            granted("32 0 and " + w[0], x, x.apart(0, 1), w[1]);
            granted("32 " + w[0] + " and 0", x, x.apart(1, 0), w[1]);
            granted("33 there and back to " + w[0], x, x.round(), 2 * w[1]);
        }
        BarberMinutes y = Tape.of(SMALL + ";chair c at 99;chair d at 49;chair e at 48");
        granted("32 half round", y, y.apart(0, 1), 50);
        granted("32 over the corner", y, y.apart(0, 2), 49);
    }

    private void fewChairs() {
        BarberMinutes none = Tape.of(SMALL);
        granted("33 no chair", none, none.round(), 0);
        refused("34 no chair", none, none.roundAt(0), 1);
        refused("32 no chair", none, none.apart(0, 0), 1);
        String one = SMALL + ";chair c at 77";
        taken("33 one chair", one, (x, n) -> x.round(), 0, 0);
        edges("34 one chair", one, (x, i) -> x.roundAt(i), 0, 0, 0, 0, 1);
        edges("32 one chair", one, (x, i) -> x.apart(i, 0), 0, 0, 0, 0, 1);
        String two = one + ";chair d at 7";
        taken("33 two chairs", two, (x, n) -> x.round(), 0, 60);
        edges("34 two chairs", two, (x, i) -> x.roundAt(i), 0, 0, 1, 1, 1);
    }

    // ---- the floor

    private void noFits() {
        String odd = "town grows 0 bald 0 shave 0;man a fair long 9 votes 1;motion p cuts 2 needs 0 worth 0;heap fair 3";
        BarberMinutes x = Tape.of(odd);
        granted("35 none", x, x.fits(), 0);
        granted("37 in none", x, x.could(), 0);
        granted("38 without a set", x, x.surely(), 0);
        granted("39 no FITS", x, x.ask(), -2);
        granted("40 no FITS", x, x.askLeaves(), -2);
        refusedAll("36 none", odd, (y, i) -> y.fitAt(i), NONE, 1, -1, 0, 1, MIN, MAX);
        BarberMinutes bare = Tape.of(SMALL);
        granted("35 the empty set", bare, bare.fits(), 1);
        granted("36 the empty set", bare, bare.fitAt(0), 0);
        refused("36 no other", bare, bare.fitAt(1), 1);
        granted("39 no motion", bare, bare.ask(), -2);
        granted("40 no motion", bare, bare.askLeaves(), -2);
        BarberMinutes heap = Tape.of(SMALL + ";heap grey 1");
        granted("35 neither", heap, heap.fits(), 0);
        granted("39 neither", heap, heap.ask(), -2);
        granted("40 neither", heap, heap.askLeaves(), -2);
    }

    private void oneFit() {
        String one = "town grows 0 bald 0 shave 0;man a fair long 9 votes 1;motion p cuts 2 needs 0 worth 0;"
            + "motion q cuts 3 needs 0 worth 0;heap fair 3";
        edges("36 the one", one, (x, i) -> x.fitAt(i), 0, 2, 0, 2, 1);
        BarberMinutes x = Tape.of(one);
        granted("35 one", x, x.fits(), 1);
        granted("37 q", x, x.could(), 2);
        granted("38 q", x, x.surely(), 2);
        granted("39 the first such", x, x.ask(), 0);
        granted("40 the one", x, x.askLeaves(), 1);
    }

    private void allFits() {
        edges("36 all", DEAF, (x, i) -> x.fitAt(i), 0, 0, 31, 31, 1);
        BarberMinutes x = Tape.of(DEAF);
        granted("35 all", x, x.fits(), 32);
        granted("37 all", x, x.could(), 31);
        granted("38 none", x, x.surely(), 0);
        granted("39 the first such", x, x.ask(), 0);
        granted("40 half of them", x, x.askLeaves(), 16);
        for (int i = 0; i < 32; i++) {
            granted("36 by bits " + i, x, x.fitAt(i), i);
        }
    }

    /** One behind the other, by numbers, from how all was told at first, no WEEK between, amended or not. */
    private void putByNumbers() {
        String town = "town grows 9 bald 0 shave 0;man a fair long 5 votes 1;motion p cuts 3 needs 0 worth 0;"
            + "motion q cuts 4 needs 0 worth 0;amends q p;heap fair ";
        BarberMinutes three = Tape.of(town + 3);
        granted("35 q finds too little behind p", three, three.fits(), 2);
        granted("36 p", three, three.fitAt(0), 1);
        granted("36 p and q", three, three.fitAt(1), 3);
        granted("38 p", three, three.surely(), 1);
        granted("39 whether q was", three, three.ask(), 1);
        granted("40 one", three, three.askLeaves(), 1);
        BarberMinutes four = Tape.of(town + 4);
        granted("36 q without p that it amends", four, four.fitAt(0), 2);
        BarberMinutes seven = Tape.of(town + 7);
        granted("35 no WEEK between", seven, seven.fits(), 0);
        three.week();
        three.put(0);
        three.shave(0);
        granted("35 as told at first", three, three.fits(), 2);
    }

    /** As much of each colour as there are heaps told of: one more, one less and another colour do not fit. */
    private void heapsJustSo() {
        String town = "town grows 0 bald 0 shave 0;man a fair long 9 votes 1;man b dark long 9 votes 1;"
            + "man c grey long 2 votes 1;motion p cuts 3 needs 0 worth 0;against b p";
        String[] heaps = {";heap fair 3", ";heap fair 2", ";heap fair 4", ";heap fair 3;heap dark 0", ";heap fair 0",
            ";heap fair 3;heap dark 3", ";heap fair 3;heap grey 3", ";heap fair 3;heap dark 0;heap grey 0",
            ";heap dark 3", ""};
        int[] count = {1, 0, 0, 1, 1, 0, 0, 1, 0, 1};
        int[] could = {1, 0, 0, 1, 0, 0, 0, 1, 0, 0};
        for (int i = 0; i < heaps.length; i++) {
            BarberMinutes x = Tape.of(town + heaps[i]);
            granted("35 by" + heaps[i], x, x.fits(), count[i]);
            granted("37 by" + heaps[i], x, x.could(), could[i]);
        }
    }

    // ---- a speaker, a strop

    private void lather() {
        edges("42 lather", SMALL, (x, lather) -> x.rests(lather), 0, 1, 9, 1, 2);
        edges("43 lather", SMALL, (x, lather) -> x.rest(lather), 0, 11, 9, 11, 2);
        Call loses = (x, lather) -> x.talk(lather, false, true, false);
        taken("41 loses nothing", SMALL, loses, 0, 0);
        taken("41 loses one", SMALL, loses, 1, -1);
        taken("41 loses nine", SMALL, loses, 9, -9);
        for (int pair = 0; pair < 8; pair++) {
            boolean speaker = (pair & 4) != 0;
            boolean strop = (pair & 2) != 0;
            boolean ofStrop = (pair & 1) != 0;
            refusedAll("41 lather, pair " + pair, SMALL, (x, lather) -> x.talk(lather, speaker, strop, ofStrop), -100, 2,
                -1, 10, MIN, MAX);
        }
    }

    // ---- shaves

    private void motionsByChance() {
        String five = DEAF.replace("long 0", "long 9").replace("shave 0", "shave 50").replace("p cuts 1", "p cuts 10");
        edges("44 upper", five, (x, k) -> x.odds(k, false), 0, 0, 4, 1, 1);
        edges("44 lower", five, (x, k) -> x.odds(k, true), 0, 1, 4, 2, 1);
        edges("45 upper", five, (x, k) -> x.mean(k, false), 0, 0, 4, 9, 1);
        edges("45 lower", five, (x, k) -> x.mean(k, true), 0, 1, 4, 2, 1);
    }

    private void chanceNoneAndAll() {
        String two = "town grows 1 bald 0 shave *;man a fair long 4 votes 3;man b fair long 3 votes 5;"
            + "motion p cuts 5 needs 3 worth 0;motion q cuts 4 needs 9 worth 0;motion r cuts 1 needs 0 worth 0";
        // shave in a hundred; then of each motion: odds, by; mean, by
        long[][] want = {{0, 1, 1, 3, 1, 0, 1, 8, 1, 1, 1, 8, 1}, {1, 99, 100, 297, 100, 0, 1, 198, 25, 1, 1, 198, 25},
            {99, 1, 100, 3, 100, 0, 1, 2, 25, 1, 1, 2, 25}, {100, 0, 1, 0, 1, 0, 1, 0, 1, 1, 1, 0, 1}};
        for (long[] w : want) {
            BarberMinutes x = Tape.of(two.replace("*", "" + w[0]));
            for (int k = 0; k < 3; k++) {
                String what = " of " + k + " by shave " + w[0];
                granted("44 upper" + what, x, x.odds(k, false), w[1 + 4 * k]);
                granted("44 lower" + what, x, x.odds(k, true), w[2 + 4 * k]);
                granted("45 upper" + what, x, x.mean(k, false), w[3 + 4 * k]);
                granted("45 lower" + what, x, x.mean(k, true), w[4 + 4 * k]);
            }
            due("44 nothing changes", x.man(0, 1), 4);
        }
    }

    private void lowestTerms() {
        BarberMinutes all = Tape.of(NINES);
        // 99 to the sixth of 100 to the sixth; 54 times 99 of 100
        granted("44 the most above", all, all.odds(0, false), 941480149401L);
        granted("44 the most below", all, all.odds(0, true), 1000000000000L);
        granted("45 above", all, all.mean(0, false), 2673);
        granted("45 below", all, all.mean(0, true), 50);
        BarberMinutes half = Tape.of("town grows 0 bald 0 shave 50;man a fair long 9 votes 4;man b fair long 9 votes 4;"
            + "motion p cuts 1 needs 4 worth 0;motion q cuts 1 needs 5 worth 0");
        granted("44 one of two", half, half.odds(0, false), 3);
        granted("44 of four", half, half.odds(0, true), 4);
        granted("44 both", half, half.odds(1, false), 1);
        granted("44 of four", half, half.odds(1, true), 4);
        granted("45 a WHOLE", half, half.mean(0, false), 4);
        granted("45 by 1", half, half.mean(0, true), 1);
    }

    private void seeds() {
        // 65,536 stays what it is: every DRAW mod 100 is 36, so that nobody is shaved by 10 in a hundred
        edges("46 seed", FULL, (x, seed) -> x.shaves(0, seed, 1), 0, 11, 65536, 11, 2);
        // from 0 the sixth DRAW mod 100 is 9: without f, p has 15 votes of 17
        edges("47 seed", FULL, (x, seed) -> x.carries(0, seed, 1), 0, 0, 65536, 1, 2);
        edges("46 man", FULL, (x, m) -> x.shaves(m, 65536, 2), 0, 12, 5, 62, 1);
        edges("47 motion", FULL, (x, k) -> x.carries(k, 65536, 2), 0, 2, 4, 2, 1);
    }

    /** A DRAW mod 100 below shave. */
    private void drawsJustBelow() {
        // seed, its first DRAW mod 100: 74; 65,536; 299; 131,174 less twice 65,537, which is 100
        int[][] draws = {{0, 74}, {65536, 36}, {3, 99}, {1748, 0}};
        for (int[] d : draws) {
            for (int shave : new int[] {0, d[1], d[1] + 1, 100}) {
                BarberMinutes x = Tape.of("town grows 2 bald 0 shave " + shave + ";man a fair long 7 votes 1;"
                    + "motion p cuts 1 needs 1 worth 0");
                int stays = d[1] < shave ? 0 : 1;
                granted("46 seed " + d[0] + " by " + shave, x, x.shaves(0, d[0], 1), 9 * stays);
                granted("47 seed " + d[0] + " by " + shave, x, x.carries(0, d[0], 1), stays);
            }
        }
    }

    /** For each man, by numbers, behind each WEEK: from 0 these are 74, 24, 52, 90, then 41, 9 and so on. */
    private void drawsInOrder() {
        String four = "town grows 2 bald 0 shave *;man a fair long 1 votes 1;man b fair long 1 votes 2;"
            + "man c fair long 1 votes 4;man d fair long 1 votes 8;motion p cuts 3 needs 14 worth 0";
        int[] draws = new int[8];
        long seed = 0;
        for (int i = 0; i < 8; i++) {
            seed = (75 * seed + 74) % 65537;
            draws[i] = (int) (seed % 100);
        }
        due("46 the first", draws[0], 74);
        due("46 the second", draws[1], 24);
        due("46 the third", draws[2], 52);
        due("46 the fourth", draws[3], 90);
        due("46 the fifth", draws[4], 41);
        due("46 the sixth", draws[5], 9);
        for (int shave = 0; shave <= 100; shave++) {
            BarberMinutes x = Tape.of(four.replace("*", "" + shave));
            int yes = 0;
            int votes = 0;
            for (int m = 0; m < 4; m++) {
                int first = draws[m] < shave ? 0 : 3;
                int second = draws[4 + m] < shave ? 0 : first + 2;
                granted("46 one week, man " + m + " by " + shave, x, x.shaves(m, 0, 1), first);
                granted("46 two weeks, man " + m + " by " + shave, x, x.shaves(m, 0, 2), second);
                yes += first >= 3 ? 1 << m : 0;
                votes += second >= 3 ? 1 << m : 0;
            }
            granted("47 of one by " + shave, x, x.carries(0, 0, 1), yes >= 14 ? 1 : 0);
            granted("47 of two by " + shave, x, x.carries(0, 0, 2), (yes >= 14 ? 1 : 0) + (votes >= 14 ? 1 : 0));
        }
    }

    private void weeksOfDraws() {
        edges("46 weeks", FULL, (x, n) -> x.shaves(5, 65536, n), 0, 60, 60, 120, 2);
        edges("47 weeks", FULL, (x, n) -> x.carries(0, 65536, n), 0, 0, 60, 60, 2);
        BarberMinutes x = Tape.of(FULL);
        granted("47 behind the last week alone", x, x.carries(1, 65536, 1), 1);
        granted("47 now does not count", x, x.carries(0, 65536, 0), 0);
        x.carries(0, 5, 60);
        x.shaves(0, 5, 60);
        due("46 nothing changes", seen(x), seen(Tape.of(FULL)));
    }

    /** None such (1) ahead of a number (2), a number ahead of what isn't so (5). */
    private void refusalsOfTwoArguments() {
        BarberMinutes x = Tape.of(FULL);
        refused("15 both", x, x.longIn(6, 61), 1);
        refused("16 both", x, x.yesIn(5, -1), 1);
        refused("25 both", x, x.swings(-1, 55), 1);
        refused("46 all", x, x.shaves(6, -1, 61), 1);
        refused("47 all", x, x.carries(5, 65537, -1), 1);
        refused("46 a good seed, bad weeks", x, x.shaves(0, 0, 61), 2);
        refused("46 a bad seed, good weeks", x, x.shaves(0, 65537, 60), 2);
        refused("20 a digit of no motion, and one that may not be put", x, x.worthOf(56, 2), 2);
        refused("20 bad weeks, and one that may not be put", x, x.worthOf(5, 5), 2);
    }
}
