import java.util.NoSuchElementException;

/** The minutes that the barbers of a town hold; the document DOC.md promises what each call answers. */
public final class BarberMinutes {
    public static final int NONE = -1;

    private static final int NEVER = -2;
    private static final int NO_TALK = -100;

    private static final int GRANTED = 0;
    private static final int NONE_SUCH = 1;
    private static final int BAD_NUMBER = 2;
    private static final int NO_ROOM = 3;
    private static final int FAULTY = 4;
    private static final int NOT_SO = 5;
    private static final int NOTHING_THERE = 6;

    private static final int TAPE_ROOM = 900;
    private static final int FEED_BYTES = 20;
    private static final int MEN = 6;
    private static final int MOTIONS = 5;
    private static final int AGAINSTS = 9;
    private static final int AMENDMENTS = 6;
    private static final int QUARRELS = 9;
    private static final int CHAIRS = 5;
    private static final int COLOURS = 3;
    private static final int SQUARE = 100;
    private static final int HUNDRED = 100;
    private static final int LONGEST_HAIR = 200;
    private static final int WEEKS_AHEAD = 60;
    private static final int WEEKS_ALLOWED = 999;
    private static final int AGENDA_WEEKS = 4;
    private static final int MOST_NEEDS = 54;
    private static final int MOST_LATHER = 9;
    private static final int SEEDS = 65537;
    private static final int ACTS_KEPT = 16;
    private static final int IMAGES_KEPT = 3;
    private static final int[] TENS = {1, 10, 100, 1000, 10000};

    private final byte[] tape;
    private int taped;
    private final Reader reader;
    /** A town without men stands for no town at all. */
    private Town town;
    /** A text is read into this one, so that the town stays if the text has a fault. */
    private Town spare;
    private final Minutes now;
    private final Minutes trial;
    private final Past past;
    private final Agenda agenda;
    private final Tour tour;
    private final Sweepings sweepings;
    private final Chance chance;
    private int fault;
    private int place;
    private int trouble;

    public BarberMinutes() {
        tape = new byte[TAPE_ROOM];
        reader = new Reader();
        town = new Town();
        spare = new Town();
        now = new Minutes();
        trial = new Minutes();
        past = new Past();
        agenda = new Agenda();
        tour = new Tour();
        sweepings = new Sweepings();
        chance = new Chance();
    }

    // ---- the town

    public int feed(int a, int b, int c, int d, int e) {
        if (taped + FEED_BYTES > TAPE_ROOM) {
            return NONE;
        }
        store(a);
        store(b);
        store(c);
        store(d);
        store(e);
        return taped;
    }

    private void store(int number) {
        for (int shift = 24; shift >= 0 && taped < TAPE_ROOM; shift -= 8) {
            tape[taped] = (byte) (number >> shift);
            taped++;
        }
    }

    public int town(int n) {
        if (n < 0 || n > taped) {
            return refused(BAD_NUMBER);
        }
        taped = 0;
        fault = reader.read(tape, n, spare);
        if (fault != 0) {
            place = reader.place();
            return refused(FAULTY);
        }
        Town read = spare;
        spare = town;
        town = read;
        now.begin(town);
        past.forget();
        return granted(town.men);
    }

    public int fault() {
        return fault;
    }

    public int where() {
        return trouble == FAULTY ? place : NONE;
    }

    // ---- now

    public int man(int m, int what) {
        if (lacksMan(m) || what < 0 || what > 6) {
            return refused(NONE_SUCH);
        }
        switch (what) {
            case 0: return granted(town.colour[m]);
            case 1: return granted(now.hair[m]);
            case 2: return granted(town.votes[m]);
            case 3: return granted(now.isBald(town, m) ? 1 : 0);
            case 4: return granted(town.against[m]);
            case 5: return granted(town.quarrels[m]);
            default: return granted(now.motionsLiked(town, m));
        }
    }

    public int motion(int k, int what) {
        if (lacksMotion(k) || what < 0 || what > 7) {
            return refused(NONE_SUCH);
        }
        switch (what) {
            case 0: return granted(town.cuts[k]);
            case 1: return granted(town.needs[k]);
            case 2: return granted(town.worth[k]);
            case 3: return granted(town.amends[k]);
            case 4: return granted(now.wasCarried(k) ? 1 : 0);
            case 5: return granted(now.mayBePut(town, k) ? 1 : 0);
            case 6: return granted(now.yesVotes(town, k));
            default: return granted(now.yesMen(town, k));
        }
    }

    public int floor(int colour) {
        if (noTown() || colour < 0 || colour >= COLOURS) {
            return refused(NONE_SUCH);
        }
        return granted(now.fallen[colour]);
    }

    public int bald() {
        return noTown() ? refused(NONE_SUCH) : granted(now.baldMen(town));
    }

    public int longest() {
        if (noTown()) {
            return refused(NONE_SUCH);
        }
        int found = 0;
        for (int m = 1; m < town.men; m++) {
            if (now.hair[m] > now.hair[found]) {
                found = m;
            }
        }
        return granted(found);
    }

    public int ready() {
        if (noTown()) {
            return refused(NONE_SUCH);
        }
        int found = 0;
        for (int k = 0; k < town.motions; k++) {
            if (now.mayBePut(town, k) && now.hasEnough(town, k)) {
                found |= 1 << k;
            }
        }
        return granted(found);
    }

    public int quorum() {
        return noTown() ? refused(NONE_SUCH) : granted(town.votesOf(now.hairyMen(town)));
    }

    public int behind(int k) {
        return lacksMotion(k) ? refused(NONE_SUCH) : granted(town.amenders(k));
    }

    public int depth(int k) {
        return lacksMotion(k) ? refused(NONE_SUCH) : granted(town.rowUpTo(k));
    }

    // ---- weeks to come, nothing being put

    public int longIn(int m, int n) {
        if (lacksMan(m)) {
            return refused(NONE_SUCH);
        }
        if (n < 0 || n > WEEKS_AHEAD) {
            return refused(BAD_NUMBER);
        }
        lookAhead(n);
        return granted(trial.hair[m]);
    }

    public int yesIn(int k, int n) {
        if (lacksMotion(k)) {
            return refused(NONE_SUCH);
        }
        if (n < 0 || n > WEEKS_AHEAD) {
            return refused(BAD_NUMBER);
        }
        lookAhead(n);
        return granted(trial.yesVotes(town, k));
    }

    public int carryIn(int k) {
        return lacksMotion(k) ? refused(NONE_SUCH) : granted(weeksUntilEnough(k));
    }

    public int hairyIn() {
        if (noTown()) {
            return refused(NONE_SUCH);
        }
        trial.copy(now);
        for (int n = 0; n <= WEEKS_AHEAD; n++) {
            if (trial.baldMen(town) == 0) {
                return granted(n);
            }
            trial.passWeek(town);
        }
        return granted(NEVER);
    }

    public int soonest() {
        if (noTown()) {
            return refused(NONE_SUCH);
        }
        int found = NEVER;
        int fewest = WEEKS_AHEAD + 1;
        for (int k = 0; k < town.motions; k++) {
            int weeks = now.mayBePut(town, k) ? weeksUntilEnough(k) : NEVER;
            if (weeks != NEVER && weeks < fewest) {
                fewest = weeks;
                found = k;
            }
        }
        return granted(found);
    }

    private void lookAhead(int weeks) {
        trial.copy(now);
        for (int n = 0; n < weeks; n++) {
            trial.passWeek(town);
        }
    }

    private int weeksUntilEnough(int k) {
        trial.copy(now);
        for (int n = 0; n <= WEEKS_AHEAD; n++) {
            if (trial.hasEnough(town, k)) {
                return n;
            }
            trial.passWeek(town);
        }
        return NEVER;
    }

    // ---- agendas

    public int worthOf(int row, int n) {
        if (lacksAgenda(n)) {
            return NONE;
        }
        if (!Agenda.isRow(town, row, n)) {
            return refused(BAD_NUMBER);
        }
        int worth = agenda.worthOfRow(town, now, row, n);
        return worth == NONE ? refused(NOT_SO) : granted(worth);
    }

    public int bestRow(int n) {
        if (lacksAgenda(n)) {
            return NONE;
        }
        agenda.search(town, now, n);
        return granted(agenda.bestRow);
    }

    public int bestWorth(int n) {
        if (lacksAgenda(n)) {
            return NONE;
        }
        agenda.search(town, now, n);
        return granted(agenda.bestWorth);
    }

    public int bestCarried(int n) {
        if (lacksAgenda(n)) {
            return NONE;
        }
        agenda.search(town, now, n);
        return granted(agenda.bestCarried);
    }

    public int weeksFor(int k) {
        return lacksMotion(k) ? refused(NONE_SUCH) : granted(agenda.fewestWeeks(town, now, k));
    }

    private boolean lacksAgenda(int n) {
        return refusedOf(n < 1 || n > AGENDA_WEEKS);
    }

    // ---- votes, sides

    public int swings(int m, int needs) {
        if (lacksMan(m)) {
            return refused(NONE_SUCH);
        }
        if (lacksNeeds(needs)) {
            return refused(BAD_NUMBER);
        }
        return granted(now.turns(town, m, needs));
    }

    public int mighty(int needs) {
        if (refusedOf(lacksNeeds(needs))) {
            return NONE;
        }
        int found = NEVER;
        int most = 0;
        for (int m = 0; m < town.men; m++) {
            int turns = now.turns(town, m, needs);
            if (turns > most) {
                most = turns;
                found = m;
            }
        }
        return granted(found);
    }

    public int outvoted(int needs) {
        if (refusedOf(lacksNeeds(needs))) {
            return NONE;
        }
        int found = 0;
        for (int m = 0; m < town.men; m++) {
            if (!now.isBald(town, m) && now.turns(town, m, needs) == 0) {
                found |= 1 << m;
            }
        }
        return granted(found);
    }

    public int bench(int needs) {
        if (refusedOf(lacksNeeds(needs))) {
            return NONE;
        }
        int hairy = now.hairyMen(town);
        int found = NEVER;
        int fewest = MEN + 1;
        for (int set = 0; set < 1 << town.men; set++) {
            boolean fits = (set & ~hairy) == 0 && town.votesOf(set) >= needs;
            if (fits && Integer.bitCount(set) < fewest) {
                fewest = Integer.bitCount(set);
                found = set;
            }
        }
        return granted(found);
    }

    public int parting() {
        return noTown() ? refused(NONE_SUCH) : granted(town.bestSide());
    }

    public int left() {
        if (noTown()) {
            return refused(NONE_SUCH);
        }
        return granted(town.quarrelsTold() - town.quarrelsAcross(town.bestSide()));
    }

    public int peace() {
        return noTown() ? refused(NONE_SUCH) : granted(town.fewestQuarrellers());
    }

    private boolean lacksNeeds(int needs) {
        return needs < 0 || needs > MOST_NEEDS;
    }

    // ---- the round

    public int apart(int c, int other) {
        if (lacksChair(c) || lacksChair(other)) {
            return refused(NONE_SUCH);
        }
        return granted(town.wayBetween(c, other));
    }

    public int round() {
        if (noTown()) {
            return refused(NONE_SUCH);
        }
        tour.find(town);
        return granted(tour.far);
    }

    public int roundAt(int i) {
        if (lacksChair(i)) {
            return refused(NONE_SUCH);
        }
        tour.find(town);
        return granted(tour.best[i]);
    }

    // ---- the floor

    public int fits() {
        return cannotSweep() ? NONE : granted(sweepings.count);
    }

    public int fitAt(int i) {
        if (cannotSweep() || i < 0 || i >= sweepings.count) {
            return refused(NONE_SUCH);
        }
        return granted(sweepings.sets[i]);
    }

    public int could() {
        return cannotSweep() ? NONE : granted(sweepings.inSome());
    }

    public int surely() {
        return cannotSweep() ? NONE : granted(sweepings.inAll());
    }

    public int ask() {
        return cannotSweep() ? NONE : granted(sweepings.question(town));
    }

    public int askLeaves() {
        if (cannotSweep()) {
            return NONE;
        }
        int k = sweepings.question(town);
        return granted(k == NEVER ? NEVER : sweepings.leftAtMost(k));
    }

    private boolean cannotSweep() {
        if (noTown()) {
            refused(NONE_SUCH);
            return true;
        }
        sweepings.find(town);
        return false;
    }

    // ---- a speaker, a strop

    public int talk(int lather, boolean speaker, boolean strop, boolean ofStrop) {
        if (lacksLather(lather)) {
            return NO_TALK;
        }
        return granted(ofStrop ? share(lather, strop, speaker) : share(lather, speaker, strop));
    }

    public int rests(int lather) {
        if (lacksLather(lather)) {
            return NONE;
        }
        int found = 0;
        for (int pair = 0; pair < 4; pair++) {
            if (isRest(lather, pair)) {
                found++;
            }
        }
        return granted(found);
    }

    public int rest(int lather) {
        if (lacksLather(lather)) {
            return NONE;
        }
        for (int pair = 0; pair < 4; pair++) {
            if (isRest(lather, pair)) {
                return granted((pair >> 1) * 10 + (pair & 1));
            }
        }
        return granted(NEVER);
    }

    private boolean lacksLather(int lather) {
        return refusedOf(lather < 0 || lather > MOST_LATHER);
    }

    /** What one of the two has who shaves (or talks), while the other one shaves (or talks). */
    private static int share(int lather, boolean shaves, boolean otherShaves) {
        if (shaves) {
            return otherShaves ? 1 : 4;
        }
        return otherShaves ? -lather : 2;
    }

    /** Of a pair the higher bit tells whether the speaker shaves, the lower one whether the strop does. */
    private static boolean isRest(int lather, int pair) {
        boolean speaker = (pair & 2) != 0;
        boolean strop = (pair & 1) != 0;
        return share(lather, speaker, strop) >= share(lather, !speaker, strop)
            && share(lather, strop, speaker) >= share(lather, !strop, speaker);
    }

    // ---- shaves

    public long odds(int k, boolean lower) {
        if (lacksMotion(k)) {
            return refused(NONE_SUCH);
        }
        lookAhead(1);
        chance.weighEnough(town, trial, k);
        granted(0);
        return lower ? chance.lower : chance.upper;
    }

    public long mean(int k, boolean lower) {
        if (lacksMotion(k)) {
            return refused(NONE_SUCH);
        }
        lookAhead(1);
        chance.weighYes(town, trial, k);
        granted(0);
        return lower ? chance.lower : chance.upper;
    }

    public int shaves(int m, int seed, int n) {
        if (lacksMan(m)) {
            return refused(NONE_SUCH);
        }
        if (lacksDraws(seed, n)) {
            return refused(BAD_NUMBER);
        }
        trial.copy(now);
        chance.seed = seed;
        for (int week = 0; week < n; week++) {
            chance.passShavingWeek(town, trial);
        }
        return granted(trial.hair[m]);
    }

    public int carries(int k, int seed, int n) {
        if (lacksMotion(k)) {
            return refused(NONE_SUCH);
        }
        if (lacksDraws(seed, n)) {
            return refused(BAD_NUMBER);
        }
        trial.copy(now);
        chance.seed = seed;
        int found = 0;
        for (int week = 0; week < n; week++) {
            chance.passShavingWeek(town, trial);
            if (trial.hasEnough(town, k)) {
                found++;
            }
        }
        return granted(found);
    }

    private boolean lacksDraws(int seed, int n) {
        return seed < 0 || seed >= SEEDS || n < 0 || n > WEEKS_AHEAD;
    }

    // ---- acts

    public int put(int k) {
        if (lacksMotion(k)) {
            return refused(NONE_SUCH);
        }
        if (!now.mayBePut(town, k)) {
            return refused(NOT_SO);
        }
        past.keep(now);
        return granted(now.cutFor(town, k) ? 1 : 0);
    }

    public int week() {
        if (noTown()) {
            return refused(NONE_SUCH);
        }
        if (now.weeks >= WEEKS_ALLOWED) {
            return refused(NO_ROOM);
        }
        past.keep(now);
        now.passWeek(town);
        return granted(now.baldMen(town));
    }

    public int shave(int m) {
        if (lacksMan(m)) {
            return refused(NONE_SUCH);
        }
        if (now.hair[m] == 0) {
            return refused(NOT_SO);
        }
        past.keep(now);
        int off = now.hair[m];
        now.cutOff(town, m, off);
        return granted(off);
    }

    public boolean undo() {
        if (!past.takeBack(now)) {
            refused(NOTHING_THERE);
            return false;
        }
        granted(0);
        return true;
    }

    public int image() {
        if (noTown()) {
            return refused(NONE_SUCH);
        }
        int number = past.draw(now);
        return number == NONE ? refused(NO_ROOM) : granted(number);
    }

    public boolean back(int image) {
        if (!past.restore(image, now)) {
            refused(NONE_SUCH);
            return false;
        }
        granted(0);
        return true;
    }

    // ---- what is told

    public int led(int i) throws NoSuchElementException {
        int ahead = 0;
        for (int k = 0; k < town.motions; k++) {
            if (now.wasCarried(k)) {
                if (ahead == i) {
                    return k;
                }
                ahead++;
            }
        }
        throw new NoSuchElementException();
    }

    public int size(int what) {
        switch (what) {
            case 0: return town.grows;
            case 1: return town.baldBelow;
            case 2: return town.shaveChance;
            case 3: return town.men;
            case 4: return town.motions;
            case 5: return Town.bitsOf(town.against, town.men);
            case 6: return Town.bitsOf(town.amends, town.motions);
            case 7: return town.quarrelsTold();
            case 8: return town.chairs;
            case 9: return Integer.bitCount(town.heapsTold);
            case 10: return now.weeks;
            case 11: return past.acts;
            case 12: return past.images;
            case 13: return taped;
            default: return NONE;
        }
    }

    public int trouble() {
        return trouble;
    }

    private int refused(int why) {
        trouble = why;
        return NONE;
    }

    /** Refuses a call that asks of the whole town: without a town, or of a bad number. */
    private boolean refusedOf(boolean badNumber) {
        if (noTown()) {
            refused(NONE_SUCH);
        } else if (badNumber) {
            refused(BAD_NUMBER);
        }
        return badNumber || noTown();
    }

    private int granted(int answer) {
        trouble = GRANTED;
        return answer;
    }

    private boolean noTown() {
        return town.men == 0;
    }

    private boolean lacksMan(int m) {
        return m < 0 || m >= town.men;
    }

    private boolean lacksMotion(int k) {
        return k < 0 || k >= town.motions;
    }

    private boolean lacksChair(int c) {
        return c < 0 || c >= town.chairs;
    }

    /** What a text told; nothing in it changes by acts. */
    private static final class Town {
        int grows;
        int baldBelow;
        int shaveChance;
        int men;
        final int[] colour = new int[MEN];
        final int[] firstHair = new int[MEN];
        final int[] votes = new int[MEN];
        final int[] against = new int[MEN];
        final int[] quarrels = new int[MEN];
        int motions;
        final int[] cuts = new int[MOTIONS];
        final int[] needs = new int[MOTIONS];
        final int[] worth = new int[MOTIONS];
        final int[] amends = new int[MOTIONS];
        private final int[] rows = new int[MOTIONS];
        int chairs;
        final int[] chairAt = new int[CHAIRS];
        final int[] heap = new int[COLOURS];
        int heapsTold;

        void clear() {
            grows = 0;
            baldBelow = 0;
            shaveChance = 0;
            men = 0;
            motions = 0;
            chairs = 0;
            heapsTold = 0;
            for (int c = 0; c < COLOURS; c++) {
                heap[c] = 0;
            }
        }

        void addMan(int ofColour, int ofHair, int ofVotes) {
            if (men >= MEN) {
                return;
            }
            colour[men] = ofColour;
            firstHair[men] = ofHair;
            votes[men] = ofVotes;
            against[men] = 0;
            quarrels[men] = 0;
            men++;
        }

        void addMotion(int ofCuts, int ofNeeds, int ofWorth) {
            if (motions >= MOTIONS) {
                return;
            }
            cuts[motions] = ofCuts;
            needs[motions] = ofNeeds;
            worth[motions] = ofWorth;
            amends[motions] = 0;
            motions++;
        }

        void addChair(int at) {
            if (chairs < CHAIRS) {
                chairAt[chairs] = at;
                chairs++;
            }
        }

        static int bitsOf(int[] sets, int count) {
            int found = 0;
            for (int i = 0; i < count && i < sets.length; i++) {
                found += Integer.bitCount(sets[i]);
            }
            return found;
        }

        int votesOf(int set) {
            int found = 0;
            for (int m = 0; m < men; m++) {
                if ((set >> m & 1) != 0) {
                    found += votes[m];
                }
            }
            return found;
        }

        /** A motion amends only ones told ahead of it, so that one way through the numbers finds all. */
        int amenders(int k) {
            int found = 1 << k;
            for (int later = k + 1; later < motions; later++) {
                if ((amends[later] & found) != 0) {
                    found |= 1 << later;
                }
            }
            return found & ~(1 << k);
        }

        int rowUpTo(int k) {
            for (int at = 0; at <= k && at < MOTIONS; at++) {
                rows[at] = 1;
                for (int ahead = 0; ahead < at; ahead++) {
                    if ((amends[at] >> ahead & 1) != 0 && rows[ahead] >= rows[at]) {
                        rows[at] = rows[ahead] + 1;
                    }
                }
            }
            return k >= 0 && k < MOTIONS ? rows[k] : 0;
        }

        /** Each quarrel stands with both of its men. */
        int quarrelsTold() {
            return bitsOf(quarrels, men) / 2;
        }

        int quarrelsAcross(int side) {
            int found = 0;
            for (int m = 0; m < men; m++) {
                if ((side >> m & 1) != 0) {
                    found += Integer.bitCount(quarrels[m] & ~side);
                }
            }
            return found;
        }

        int bestSide() {
            int found = 0;
            int most = 0;
            for (int side = 0; side < 1 << men; side += 2) {
                int across = quarrelsAcross(side);
                if (across > most) {
                    most = across;
                    found = side;
                }
            }
            return found;
        }

        int fewestQuarrellers() {
            int found = 0;
            int fewest = MEN + 1;
            for (int gone = 0; gone < 1 << men; gone++) {
                if (Integer.bitCount(gone) < fewest && isQuietWithout(gone)) {
                    fewest = Integer.bitCount(gone);
                    found = gone;
                }
            }
            return found;
        }

        private boolean isQuietWithout(int gone) {
            for (int m = 0; m < men; m++) {
                if ((gone >> m & 1) == 0 && (quarrels[m] & ~gone) != 0) {
                    return false;
                }
            }
            return true;
        }

        int wayBetween(int c, int other) {
            if (c < 0 || c >= chairs || other < 0 || other >= chairs) {
                return 0;
            }
            int way = Math.abs(chairAt[c] - chairAt[other]);
            return Math.min(way, SQUARE - way);
        }
    }

    /** How all is at one time: the hair, the floor, what was carried, the weeks gone by. */
    private static final class Minutes {
        final int[] hair = new int[MEN];
        final int[] fallen = new int[COLOURS];
        int carried;
        int weeks;

        void begin(Town town) {
            System.arraycopy(town.firstHair, 0, hair, 0, MEN);
            for (int c = 0; c < COLOURS; c++) {
                fallen[c] = 0;
            }
            carried = 0;
            weeks = 0;
        }

        void copy(Minutes other) {
            System.arraycopy(other.hair, 0, hair, 0, MEN);
            System.arraycopy(other.fallen, 0, fallen, 0, COLOURS);
            carried = other.carried;
            weeks = other.weeks;
        }

        void passWeek(Town town) {
            for (int m = 0; m < town.men; m++) {
                hair[m] = Math.min(LONGEST_HAIR, hair[m] + town.grows);
            }
            weeks++;
        }

        boolean isBald(Town town, int m) {
            return hair[m] < town.baldBelow;
        }

        int baldMen(Town town) {
            int found = 0;
            for (int m = 0; m < town.men; m++) {
                if (isBald(town, m)) {
                    found |= 1 << m;
                }
            }
            return found;
        }

        int hairyMen(Town town) {
            return ((1 << town.men) - 1) & ~baldMen(town);
        }

        private boolean saysYes(Town town, int m, int k) {
            return hair[m] >= town.baldBelow && hair[m] >= town.cuts[k] && (town.against[m] >> k & 1) == 0;
        }

        int motionsLiked(Town town, int m) {
            int found = 0;
            for (int k = 0; k < town.motions; k++) {
                if (saysYes(town, m, k)) {
                    found |= 1 << k;
                }
            }
            return found;
        }

        int yesMen(Town town, int k) {
            int found = 0;
            for (int m = 0; m < town.men; m++) {
                if (saysYes(town, m, k)) {
                    found |= 1 << m;
                }
            }
            return found;
        }

        int yesVotes(Town town, int k) {
            return town.votesOf(yesMen(town, k));
        }

        boolean hasEnough(Town town, int k) {
            return yesVotes(town, k) >= town.needs[k];
        }

        boolean wasCarried(int k) {
            return (carried >> k & 1) != 0;
        }

        boolean mayBePut(Town town, int k) {
            return !wasCarried(k) && (town.amends[k] & ~carried) == 0;
        }

        /** Puts a motion, whether it may be put or not: what was swept tells nothing of amendments. */
        boolean cutFor(Town town, int k) {
            int yes = yesMen(town, k);
            boolean enough = town.votesOf(yes) >= town.needs[k];
            for (int m = 0; m < town.men; m++) {
                if ((yes >> m & 1) != 0) {
                    cutOff(town, m, town.cuts[k]);
                }
            }
            if (enough) {
                carried |= 1 << k;
            }
            return enough;
        }

        void cutOff(Town town, int m, int off) {
            int colour = town.colour[m];
            hair[m] -= off;
            if (colour >= 0 && colour < COLOURS) {
                fallen[colour] += off;
            }
        }

        int turns(Town town, int m, int needs) {
            if (isBald(town, m)) {
                return 0;
            }
            int others = hairyMen(town) & ~(1 << m);
            int found = 0;
            for (int set = 0; set < 1 << town.men; set++) {
                if ((set & ~others) == 0) {
                    int votes = town.votesOf(set);
                    if (votes < needs && votes + town.votes[m] >= needs) {
                        found++;
                    }
                }
            }
            return found;
        }
    }

    /** Acts that can be undone, the oldest being lost when one more comes, and images. */
    private static final class Past {
        private final Minutes[] before = new Minutes[ACTS_KEPT];
        private final Minutes[] drawn = new Minutes[IMAGES_KEPT];
        private int next;
        int acts;
        int images;

        Past() {
            for (int i = 0; i < ACTS_KEPT; i++) {
                before[i] = new Minutes();
            }
            for (int i = 0; i < IMAGES_KEPT; i++) {
                drawn[i] = new Minutes();
            }
        }

        void forget() {
            acts = 0;
            images = 0;
        }

        void keep(Minutes now) {
            before[next].copy(now);
            next = (next + 1) % ACTS_KEPT;
            acts = Math.min(ACTS_KEPT, acts + 1);
        }

        boolean takeBack(Minutes now) {
            if (acts == 0) {
                return false;
            }
            next = (next + ACTS_KEPT - 1) % ACTS_KEPT;
            acts--;
            now.copy(before[next]);
            return true;
        }

        int draw(Minutes now) {
            if (images >= IMAGES_KEPT) {
                return NONE;
            }
            drawn[images].copy(now);
            images++;
            return images - 1;
        }

        boolean restore(int image, Minutes now) {
            if (image < 0 || image >= images) {
                return false;
            }
            now.copy(drawn[image]);
            acts = 0;
            return true;
        }
    }

    /** Rows of weeks in each of which a motion is put or none, as digits: 0 none, else a motion's number and 1. */
    private static final class Agenda {
        /** How all is behind so many weeks of the row that is tried. */
        private final Minutes[] steps = new Minutes[AGENDA_WEEKS + 1];
        private int weeks;
        int bestRow;
        int bestWorth;
        int bestCarried;

        Agenda() {
            for (int i = 0; i <= AGENDA_WEEKS; i++) {
                steps[i] = new Minutes();
            }
        }

        static boolean isRow(Town town, int row, int n) {
            if (row < 0 || n < 0 || n >= TENS.length || row >= TENS[n]) {
                return false;
            }
            for (int i = 0; i < n; i++) {
                if (row / TENS[i] % 10 > town.motions) {
                    return false;
                }
            }
            return true;
        }

        int worthOfRow(Town town, Minutes now, int row, int n) {
            steps[0].copy(now);
            int worth = 0;
            for (int depth = 0; depth < n && depth < AGENDA_WEEKS; depth++) {
                int gain = takeStep(town, depth, row / TENS[n - 1 - depth] % 10);
                if (gain == NONE) {
                    return NONE;
                }
                worth += gain;
            }
            return worth;
        }

        void search(Town town, Minutes now, int n) {
            weeks = Math.min(n, AGENDA_WEEKS);
            bestRow = 0;
            bestWorth = NONE;
            bestCarried = 0;
            steps[0].copy(now);
            explore(town, 0, 0, 0);
        }

        /** Rows come in their order, so that of like ones the first stays best. */
        private void explore(Town town, int depth, int row, int worth) {
            if (depth >= weeks) {
                if (worth > bestWorth) {
                    bestWorth = worth;
                    bestRow = row;
                    bestCarried = steps[depth].carried;
                }
                return;
            }
            for (int digit = 0; digit <= town.motions; digit++) {
                int gain = takeStep(town, depth, digit);
                if (gain != NONE) {
                    explore(town, depth + 1, row * 10 + digit, worth + gain);
                }
            }
        }

        /** What is gained in the week behind so many; NONE if the motion may not be put then. */
        private int takeStep(Town town, int depth, int digit) {
            int k = digit - 1;
            if (depth < 0 || depth >= AGENDA_WEEKS || k >= town.motions) {
                return NONE;
            }
            if (k >= 0 && !steps[depth].mayBePut(town, k)) {
                return NONE;
            }
            Minutes after = steps[depth + 1];
            after.copy(steps[depth]);
            after.passWeek(town);
            return k >= 0 && after.cutFor(town, k) ? town.worth[k] : 0;
        }

        int fewestWeeks(Town town, Minutes now, int k) {
            steps[0].copy(now);
            for (int n = 0; n <= AGENDA_WEEKS; n++) {
                weeks = n;
                if (canCarry(town, k, 0)) {
                    return n;
                }
            }
            return NEVER;
        }

        private boolean canCarry(Town town, int k, int depth) {
            if (depth >= weeks) {
                return steps[depth].wasCarried(k);
            }
            // in the last week nothing but the motion itself can carry it
            int first = depth == weeks - 1 ? k + 1 : 0;
            int last = depth == weeks - 1 ? k + 1 : town.motions;
            for (int digit = first; digit <= last; digit++) {
                if (takeStep(town, depth, digit) != NONE && canCarry(town, k, depth + 1)) {
                    return true;
                }
            }
            return false;
        }
    }

    /** The shortest round of the boy who sweeps. */
    private static final class Tour {
        private final int[] order = new int[CHAIRS];
        final int[] best = new int[CHAIRS];
        int far;

        void find(Town town) {
            far = 0;
            if (town.chairs > 0) {
                far = CHAIRS * SQUARE;
                order[0] = 0;
                walk(town, 1, 1, 0);
            }
        }

        /** Orders come by numbers, so that of like ones the first stays best. */
        private void walk(Town town, int depth, int seen, int gone) {
            if (depth >= town.chairs || depth >= CHAIRS) {
                weigh(town, depth, gone);
                return;
            }
            for (int c = 1; c < town.chairs; c++) {
                if ((seen >> c & 1) == 0) {
                    order[depth] = c;
                    walk(town, depth + 1, seen | 1 << c, gone + town.wayBetween(order[depth - 1], c));
                }
            }
        }

        private void weigh(Town town, int count, int gone) {
            int whole = gone + town.wayBetween(order[count - 1], 0);
            if (whole < far) {
                far = whole;
                System.arraycopy(order, 0, best, 0, CHAIRS);
            }
        }
    }

    /** Sets of motions by which the heaps that were swept could have fallen. */
    private static final class Sweepings {
        final int[] sets = new int[1 << MOTIONS];
        int count;
        private final Minutes trial = new Minutes();

        void find(Town town) {
            count = 0;
            for (int set = 0; set < 1 << town.motions; set++) {
                if (explainsHeaps(town, set)) {
                    sets[count] = set;
                    count++;
                }
            }
        }

        /** Of a colour without a heap nothing was swept, so that nothing may have fallen. */
        private boolean explainsHeaps(Town town, int set) {
            trial.begin(town);
            for (int k = 0; k < town.motions; k++) {
                if ((set >> k & 1) != 0) {
                    trial.cutFor(town, k);
                }
            }
            for (int c = 0; c < COLOURS; c++) {
                if (trial.fallen[c] != town.heap[c]) {
                    return false;
                }
            }
            return true;
        }

        int inSome() {
            int found = 0;
            for (int i = 0; i < count; i++) {
                found |= sets[i];
            }
            return found;
        }

        int inAll() {
            int found = count == 0 ? 0 : sets[0];
            for (int i = 1; i < count; i++) {
                found &= sets[i];
            }
            return found;
        }

        int leftAtMost(int k) {
            int with = 0;
            for (int i = 0; i < count; i++) {
                with += sets[i] >> k & 1;
            }
            return Math.max(with, count - with);
        }

        int question(Town town) {
            int found = NEVER;
            int fewest = count + 1;
            for (int k = 0; count > 0 && k < town.motions; k++) {
                int left = leftAtMost(k);
                if (left < fewest) {
                    fewest = left;
                    found = k;
                }
            }
            return found;
        }
    }

    /** Shaves as likely as told, and shaves by draws. */
    private static final class Chance {
        long upper;
        long lower;
        int seed;

        /** Every motion cuts something, so that who is shaved says yes to none. */
        void weighEnough(Town town, Minutes behind, int k) {
            int yes = behind.yesMen(town, k);
            long enough = 0;
            for (int shaved = 0; shaved < 1 << town.men; shaved++) {
                if (town.votesOf(yes & ~shaved) >= town.needs[k]) {
                    int shavedMen = Integer.bitCount(shaved);
                    enough += power(town.shaveChance, shavedMen)
                        * power(HUNDRED - town.shaveChance, town.men - shavedMen);
                }
            }
            reduce(enough, power(HUNDRED, town.men));
        }

        void weighYes(Town town, Minutes behind, int k) {
            reduce((long) behind.yesVotes(town, k) * (HUNDRED - town.shaveChance), HUNDRED);
        }

        private static long power(int base, int times) {
            long found = 1;
            for (int i = 0; i < times; i++) {
                found *= base;
            }
            return found;
        }

        private void reduce(long above, long below) {
            long common = below;
            long rest = above;
            // twice in a row the rest is halved at least, so that a long has no more steps than these
            for (int i = 0; i < 128 && rest != 0; i++) {
                long next = common % rest;
                common = rest;
                rest = next;
            }
            upper = common == 0 ? 0 : above / common;
            lower = common == 0 ? 1 : below / common;
        }

        void passShavingWeek(Town town, Minutes minutes) {
            minutes.passWeek(town);
            for (int m = 0; m < town.men; m++) {
                seed = (75 * seed + 74) % SEEDS;
                if (seed % HUNDRED < town.shaveChance) {
                    minutes.hair[m] = 0;
                }
            }
        }
    }

    /** Reads a text into a town, up to its first fault. */
    private static final class Reader {
        private static final int FORM = 1;
        private static final int UNKNOWN = 2;
        private static final int AGAIN = 3;
        private static final int BOUNDS = 4;
        private static final int MANY = 5;
        private static final int LACKS = 6;
        private static final int LATE = 7;

        private static final int END = 0;
        private static final int WORD = 1;
        private static final int WHOLE = 2;
        private static final int SEMICOLON = 3;
        private static final int NO_TOKEN = 4;
        private static final int LETTERS = 8;
        private static final int DIGITS = 3;

        private static final int LINE_TOWN = 0;
        private static final int LINE_MAN = 1;
        private static final int LINE_MOTION = 2;
        private static final int LINE_AGAINST = 3;
        private static final int LINE_AMENDS = 4;
        private static final int LINE_QUARREL = 5;
        private static final int LINE_CHAIR = 6;
        private static final int LINE_HEAP = 7;
        private static final int LINES = 8;
        private static final int NAMES = MEN + MOTIONS + CHAIRS;

        private byte[] text;
        private int end;
        private int next;
        private int kind;
        private int start;
        private int value;
        private long word;
        private Town town;
        private boolean townTold;
        private int fault;
        private int names;
        private final long[] nameWord = new long[NAMES];
        private final int[] nameSort = new int[NAMES];
        private final int[] nameNumber = new int[NAMES];

        /** The fault of the text's first bytes, 0 without one. */
        int read(byte[] tape, int n, Town into) {
            text = tape;
            end = Math.min(n, tape.length);
            next = 0;
            town = into;
            town.clear();
            townTold = false;
            fault = 0;
            names = 0;
            stepOn();
            readLine();
            for (int line = 0; line < TAPE_ROOM && fault == 0 && kind == SEMICOLON; line++) {
                stepOn();
                readLine();
            }
            if (kind != END) {
                fail(FORM);
            }
            if (town.men == 0) {
                fail(LACKS);
            }
            return fault;
        }

        /** A fault is found at the token that has it, and reading stays there. */
        int place() {
            return start;
        }

        private void fail(int number) {
            if (fault == 0) {
                fault = number;
            }
        }

        private void readLine() {
            int line = lineHere();
            if (line == NONE) {
                fail(FORM);
            } else if (line == LINE_TOWN && townTold) {
                fail(AGAIN);
            } else if (line != LINE_TOWN && !townTold) {
                fail(LACKS);
            } else if (told(line) >= room(line)) {
                fail(MANY);
            }
            stepOn();
            switch (fault == 0 ? line : NONE) {
                case LINE_TOWN: readTown(); break;
                case LINE_MAN: readMan(); break;
                case LINE_MOTION: readMotion(); break;
                case LINE_AGAINST: readAgainst(); break;
                case LINE_AMENDS: readAmends(); break;
                case LINE_QUARREL: readQuarrel(); break;
                case LINE_CHAIR: readChair(); break;
                case LINE_HEAP: readHeap(); break;
                default: break;
            }
        }

        /** A second town and a heap told again have faults of their own, hence room for them. */
        private static int room(int line) {
            switch (line) {
                case LINE_MAN: return MEN;
                case LINE_MOTION: return MOTIONS;
                case LINE_AGAINST: return AGAINSTS;
                case LINE_AMENDS: return AMENDMENTS;
                case LINE_QUARREL: return QUARRELS;
                case LINE_CHAIR: return CHAIRS;
                default: return TAPE_ROOM;
            }
        }

        private int told(int line) {
            switch (line) {
                case LINE_MAN: return town.men;
                case LINE_MOTION: return town.motions;
                case LINE_AGAINST: return Town.bitsOf(town.against, town.men);
                case LINE_AMENDS: return Town.bitsOf(town.amends, town.motions);
                case LINE_QUARREL: return town.quarrelsTold();
                case LINE_CHAIR: return town.chairs;
                default: return 0;
            }
        }

        private void readTown() {
            takeWord("grows");
            town.grows = takeWhole(0, 9);
            takeWord("bald");
            town.baldBelow = takeWhole(0, 20);
            takeWord("shave");
            town.shaveChance = takeWhole(0, 100);
            townTold = true;
        }

        private void readMan() {
            takeNewName(LINE_MAN, town.men);
            int colour = colourHere();
            stepOn();
            takeWord("long");
            int hair = takeWhole(0, 99);
            takeWord("votes");
            int votes = takeWhole(0, 9);
            if (fault == 0) {
                town.addMan(colour, hair, votes);
            }
        }

        private void readMotion() {
            takeNewName(LINE_MOTION, town.motions);
            takeWord("cuts");
            int cuts = takeWhole(1, 30);
            takeWord("needs");
            int needs = takeWhole(0, MOST_NEEDS);
            takeWord("worth");
            int worth = takeWhole(0, 99);
            if (fault == 0) {
                town.addMotion(cuts, needs, worth);
            }
        }

        private void readAgainst() {
            int m = toldHere(LINE_MAN);
            stepOn();
            int k = toldHere(LINE_MOTION);
            if (m == NONE || k == NONE) {
                return;
            }
            if ((town.against[m] >> k & 1) != 0) {
                fail(AGAIN);
                return;
            }
            town.against[m] |= 1 << k;
            stepOn();
        }

        private void readAmends() {
            int later = toldHere(LINE_MOTION);
            stepOn();
            int ahead = toldHere(LINE_MOTION);
            if (later == NONE || ahead == NONE) {
                return;
            }
            if ((town.amends[later] >> ahead & 1) != 0) {
                fail(AGAIN);
            } else if (ahead >= later) {
                fail(LATE);
            } else {
                town.amends[later] |= 1 << ahead;
                stepOn();
            }
        }

        private void readQuarrel() {
            int m = toldHere(LINE_MAN);
            stepOn();
            int other = toldHere(LINE_MAN);
            if (m == NONE || other == NONE) {
                return;
            }
            if (m == other || (town.quarrels[m] >> other & 1) != 0) {
                fail(AGAIN);
                return;
            }
            town.quarrels[m] |= 1 << other;
            town.quarrels[other] |= 1 << m;
            stepOn();
        }

        private void readChair() {
            takeNewName(LINE_CHAIR, town.chairs);
            takeWord("at");
            int at = takeWhole(0, SQUARE - 1);
            if (fault == 0) {
                town.addChair(at);
            }
        }

        private void readHeap() {
            int colour = colourHere();
            if (colour == NONE) {
                return;
            }
            if ((town.heapsTold >> colour & 1) != 0) {
                fail(AGAIN);
                return;
            }
            stepOn();
            int amount = takeWhole(0, 999);
            if (fault == 0 && colour < COLOURS) {
                town.heap[colour] = amount;
                town.heapsTold |= 1 << colour;
            }
        }

        private void takeWord(String due) {
            if (!isWord(due)) {
                fail(FORM);
            }
            stepOn();
        }

        private int takeWhole(int least, int most) {
            if (kind != WHOLE) {
                fail(FORM);
            } else if (value < least || value > most) {
                fail(BOUNDS);
            }
            int taken = value;
            stepOn();
            return taken;
        }

        private void takeNewName(int sort, int number) {
            if (kind != WORD || lineHere() != NONE) {
                fail(FORM);
            } else if (nameHere() != NONE) {
                fail(AGAIN);
            }
            if (fault == 0 && names < NAMES) {
                nameWord[names] = word;
                nameSort[names] = sort;
                nameNumber[names] = number;
                names++;
            }
            stepOn();
        }

        /** The number of the man or motion whose name stands here; NONE if there is a fault. */
        private int toldHere(int sort) {
            int at = nameHere();
            if (kind != WORD || lineHere() != NONE) {
                fail(FORM);
            } else if (at == NONE || nameSort[at] != sort) {
                fail(UNKNOWN);
            }
            return fault != 0 || at == NONE ? NONE : nameNumber[at];
        }

        private int nameHere() {
            for (int i = 0; i < names; i++) {
                if (kind == WORD && nameWord[i] == word) {
                    return i;
                }
            }
            return NONE;
        }

        private int colourHere() {
            if (isWord("fair")) {
                return 0;
            }
            if (isWord("dark")) {
                return 1;
            }
            if (isWord("grey")) {
                return 2;
            }
            fail(FORM);
            return NONE;
        }

        private int lineHere() {
            for (int line = 0; line < LINES; line++) {
                if (isWord(firstWord(line))) {
                    return line;
                }
            }
            return NONE;
        }

        private static String firstWord(int line) {
            switch (line) {
                case LINE_TOWN: return "town";
                case LINE_MAN: return "man";
                case LINE_MOTION: return "motion";
                case LINE_AGAINST: return "against";
                case LINE_AMENDS: return "amends";
                case LINE_QUARREL: return "quarrel";
                case LINE_CHAIR: return "chair";
                default: return "heap";
            }
        }

        private boolean isWord(String other) {
            long packed = 0;
            for (int i = 0; i < other.length(); i++) {
                packed = packedWith(packed, other.charAt(i));
            }
            return kind == WORD && word == packed;
        }

        /** Eight letters of five bits each go into a long, so that words are compared as numbers. */
        private static long packedWith(long packed, int letter) {
            return packed * 32 + letter - 'a' + 1;
        }

        /** Goes on to the next token, unless there is a fault: then the place stays. */
        private void stepOn() {
            if (fault != 0) {
                return;
            }
            while (next < end && text[next] == ' ') {
                next++;
            }
            start = next;
            value = 0;
            word = 0;
            if (next >= end) {
                kind = END;
            } else if (isLetter(text[next])) {
                readLetters();
            } else if (isDigit(text[next])) {
                readDigits();
            } else {
                kind = text[next] == ';' ? SEMICOLON : NO_TOKEN;
                next++;
            }
        }

        private void readLetters() {
            while (next < end && isLetter(text[next])) {
                word = packedWith(word, text[next]);
                next++;
            }
            kind = next - start <= LETTERS ? WORD : NO_TOKEN;
        }

        private void readDigits() {
            while (next < end && isDigit(text[next])) {
                value = value * 10 + text[next] - '0';
                next++;
            }
            kind = next - start <= DIGITS ? WHOLE : NO_TOKEN;
        }

        private static boolean isLetter(int sign) {
            return sign >= 'a' && sign <= 'z';
        }

        private static boolean isDigit(int sign) {
            return sign >= '0' && sign <= '9';
        }
    }
}
