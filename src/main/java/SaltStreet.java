/**
 * A street in which a quarrel is over once salt lies on both doorsteps.
 *
 * <p>Every row is made in the constructor and used again, so no call makes an object: all calls of
 * a run share one room that is never cleared.
 */
public final class SaltStreet {
    public static final int NONE = -1;

    private static final int MOST_HOUSES = 8;
    private static final int MOST_QUARRELS = 8;
    private static final int MOST_CATS = 4;
    private static final int MOST_GROCERS = 4;
    private static final int MOST_NAMES = MOST_HOUSES + MOST_QUARRELS + MOST_CATS + MOST_GROCERS;
    private static final int MOST_TRAYS = 4;
    private static final int MOST_PLACES = 60;
    private static final int MOST_MARKS = 3;
    private static final int MOST_TAPE = 900;
    private static final int MOST_DAYS_TEXT = 300;
    private static final int MOST_LETTERS = 8;
    private static final int MOST_DIGITS = 4;
    private static final int MOST_STEPS = 30;
    private static final int MOST_ROWS = 2 * MOST_STEPS;
    private static final int MOST_NESTED = 3;
    private static final int MOST_DONE = 300;
    private static final int MOST_AT_ONCE = 999;
    private static final int MOST_ON_STEP = 9999;
    private static final int MOST_SNOW = 99;
    private static final int LAST_DAY = 999;
    private static final int LAST_SEED = 9999;
    private static final int MOST_NIGHTS = 60;
    private static final int WASHES_UNTOLD = 5;
    private static final int SIXTEENTHS = 16;

    private static final int BAD_NUMBER = 1;
    private static final int MISSING = 2;
    private static final int NO_PLACE = 3;
    private static final int TOO_MANY = 4;
    private static final int BAD_IN_TRAY = 5;
    private static final int NONE_SUCH = 6;
    private static final int CANNOT_BE = 7;
    private static final int UNLIKE_SORTS = 8;
    private static final int FAULTY = 9;

    // The kinds of a TOKEN: a sign is its own byte, a word of the language is FIRST_WORD and on,
    // in the order of WORDS.
    private static final int ENDED = 0;
    private static final int NAME = 1;
    private static final int LONG_WORD = 2;
    private static final int NUMBER = 3;
    private static final int NO_TOKEN = 4;
    private static final String WORDS = "house salt sugar gone quarrel of and needs cat from to takes grocer stock price sweet rain washes counts buy strew sweep snow night when over truce lies loop end stop ";
    private static final int FIRST_WORD = 100;
    private static final int HOUSE = 100;
    private static final int SALT = 101;
    private static final int SUGAR = 102;
    private static final int GONE = 103;
    private static final int QUARREL = 104;
    private static final int OF = 105;
    private static final int AND = 106;
    private static final int NEEDS = 107;
    private static final int CAT = 108;
    private static final int FROM = 109;
    private static final int TO = 110;
    private static final int TAKES = 111;
    private static final int GROCER = 112;
    private static final int STOCK = 113;
    private static final int PRICE = 114;
    private static final int SWEET = 115;
    private static final int RAIN = 116;
    private static final int WASHES = 117;
    private static final int COUNTS = 118;
    private static final int BUY = 119;
    private static final int STREW = 120;
    private static final int SWEEP = 121;
    private static final int SNOW = 122;
    private static final int NIGHT = 123;
    private static final int WHEN = 124;
    private static final int OVER = 125;
    private static final int TRUCE = 126;
    private static final int LIES = 127;
    private static final int LOOP = 128;
    private static final int END = 129;
    private static final int STOP = 130;

    private static final int NOT_A_TOKEN = 1;
    private static final int CANNOT_STAND = 2;
    private static final int BAD_NAME = 3;
    private static final int NUMBER_OUT = 4;
    private static final int NOT_ALLOWED = 5;
    private static final int ONE_MORE = 6;
    private static final int TOO_DEEP = 7;

    private final int[] tape = new int[MOST_TAPE];
    private final Tray[] trays = new Tray[MOST_TRAYS];
    private final World now = new World();
    private final World spare = new World();
    private final World[] marks = new World[MOST_MARKS];
    private final Plan plan = now.plan;
    private final Ground ground = now.ground;
    private final Life life = new Life();
    private final Life trial = new Life();
    private final Could could = new Could();
    private final Tokens tokens = new Tokens(tape);
    private final StreetReader streetReader = new StreetReader(tokens, spare);
    private final DaysReader daysReader = new DaysReader(tokens, plan, spare.program);
    private int onTape;
    private int marked;
    private int status;
    private long top;
    private long bottom = 1;
    private int fault = NONE;
    private int faultPlace = NONE;

    public SaltStreet() {
        for (int i = 0; i < MOST_TRAYS; i++) {
            trays[i] = new Tray();
        }
        for (int i = 0; i < MOST_MARKS; i++) {
            marks[i] = new World();
        }
    }

    public int status() {
        return status;
    }

    public long top() {
        return top;
    }

    public long bottom() {
        return bottom;
    }

    // ---- TRAYS

    public boolean tray(int tray, int sort, int many) {
        if (!isTray(tray) || !within(sort, 0, 3) || !within(many, 0, MOST_PLACES)) {
            return refused(BAD_NUMBER);
        }
        trays[tray].lay(sort, many);
        return granted();
    }

    public boolean write(int tray, int place, long v) {
        int why = whyNoPlace(tray, place);
        if (why != 0) {
            return refused(why);
        }
        trays[tray].put(place, v);
        return granted();
    }

    public long read(int tray, int place) {
        int why = whyNoPlace(tray, place);
        if (why != 0) {
            return refuse(why);
        }
        status = 0;
        return trays[tray].row[place];
    }

    public boolean pour(int from, int place, int to, int at, int many) {
        if (!isTray(from) || !isTray(to) || place < 0 || at < 0 || many < 0) {
            return refused(BAD_NUMBER);
        }
        Tray source = trays[from];
        Tray aim = trays[to];
        if (!source.there || !aim.there) {
            return refused(MISSING);
        }
        if (source.sort != aim.sort) {
            return refused(UNLIKE_SORTS);
        }
        if (!source.reachesTo(place, many) || !aim.reachesTo(at, many)) {
            return refused(NO_PLACE);
        }
        System.arraycopy(source.row, place, aim.row, at, many);
        return granted();
    }

    // ---- texts

    public int feed(int a, int b, int c, int d, int e) {
        if (onTape + 20 > MOST_TAPE) {
            return NONE;
        }
        putOnTape(a);
        putOnTape(b);
        putOnTape(c);
        putOnTape(d);
        putOnTape(e);
        return onTape;
    }

    public int street(int n) {
        if (!within(n, 0, onTape)) {
            return refuse(BAD_NUMBER);
        }
        tokens.begin(n);
        boolean taken = streetReader.takeText();
        closeText();
        if (!taken) {
            return refuse(FAULTY);
        }
        now.copyFrom(spare);
        return answer(plan.quarrels);
    }

    public int days(int n) {
        if (!within(n, 0, onTape) || n > MOST_DAYS_TEXT) {
            return refuse(BAD_NUMBER);
        }
        tokens.begin(n);
        boolean taken = daysReader.takeText();
        closeText();
        if (!taken) {
            return refuse(FAULTY);
        }
        now.program.copyFrom(spare.program);
        return answer(now.program.steps);
    }

    public int fault(int what) {
        if (what == 0) {
            return fault;
        }
        return what == 1 ? faultPlace : NONE;
    }

    public int told(int what) {
        switch (what) {
            case 0:
                return answer(plan.houses);
            case 1:
                return answer(plan.quarrels);
            case 2:
                return answer(plan.cats);
            case 3:
                return answer(plan.grocers);
            case 4:
                return answer(ground.day);
            case 5:
                return answer(ground.bought);
            case 6:
                return answer(ground.washed);
            case 7:
                return answer(ground.swept);
            case 8:
                return answer(ground.melted);
            case 9:
                return answer(plan.gone);
            case 10:
                return answer(ground.rained ? 1 : 0);
            default:
                return refuse(BAD_NUMBER);
        }
    }

    public int purse() {
        return answer(ground.purse);
    }

    public int step(int house, int what) {
        int why = whyNoStep(house, within(what, 0, 3));
        if (why != 0) {
            return refuse(why);
        }
        return answer(what == 3 ? plan.quarrelsAt[house] : ground.row(what)[house]);
    }

    public int quarrel(int quarrel, int what) {
        if (!isQuarrel(quarrel)) {
            return refuse(BAD_NUMBER);
        }
        switch (what) {
            case 0:
                return answer(plan.one[quarrel]);
            case 1:
                return answer(plan.other[quarrel]);
            case 2:
                return answer(plan.needs[quarrel]);
            case 3:
                return answer(ground.over >> quarrel & 1);
            case 4:
                return answer(ground.war[quarrel]);
            default:
                return refuse(BAD_NUMBER);
        }
    }

    public int grocer(int grocer, int what) {
        if (!isGrocer(grocer)) {
            return refuse(BAD_NUMBER);
        }
        switch (what) {
            case 0:
                return answer(ground.stock[grocer]);
            case 1:
                return answer(plan.price[grocer]);
            case 2:
                return answer(plan.sweet[grocer]);
            default:
                return refuse(BAD_NUMBER);
        }
    }

    // ---- WHOSE

    public int share(int quarrel, int side) {
        if (!isQuarrel(quarrel) || !within(side, 0, 1)) {
            return refuse(BAD_NUMBER);
        }
        int house = side == 0 ? plan.one[quarrel] : plan.other[quarrel];
        if (plan.isGone(house)) {
            return refuse(CANNOT_BE);
        }
        return answer(Whose.shareOf(plan, ground, quarrel, house));
    }

    public int whose(int house, int k) {
        int why = whyNoStep(house, k >= 0);
        if (why != 0) {
            return refuse(why);
        }
        return answerIfAny(Whose.ownerOf(plan, ground, house, k));
    }

    public int nobodys(int house) {
        int why = whyNoStep(house, true);
        if (why != 0) {
            return refuse(why);
        }
        return answer(Whose.leftOver(plan, ground, house));
    }

    public int peace() {
        return answer(Whose.atPeace(plan, ground, NONE));
    }

    public int truce() {
        return answer(Whose.inTruce(plan, ground));
    }

    public int over() {
        return answer(ground.over);
    }

    public int hopeless() {
        return answer(plan.withoutHope());
    }

    // ---- what is done

    public int strew(int house, int grains) {
        int why = whyNoStep(house, within(grains, 1, MOST_AT_ONCE));
        if (why != 0) {
            return refuse(why);
        }
        if (!ground.hasRoom(house, grains)) {
            return refuse(TOO_MANY);
        }
        ground.addSalt(house, grains);
        return answer(ground.salt[house]);
    }

    public int buy(int grocer, int grains, int house) {
        if (!isGrocer(grocer) || !within(grains, 1, MOST_AT_ONCE) || !isHouse(house)) {
            return refuse(BAD_NUMBER);
        }
        if (!ground.hasRoom(house, grains)) {
            return refuse(TOO_MANY);
        }
        if (ground.stock[grocer] < grains) {
            return refuse(NONE_SUCH);
        }
        if (plan.isGone(house)) {
            return refuse(CANNOT_BE);
        }
        return answer(ground.addBought(plan, grocer, grains, house));
    }

    public int sweep(int house) {
        int why = whyNoStep(house, true);
        if (why != 0) {
            return refuse(why);
        }
        return answer(ground.clearStep(house));
    }

    public int shovel(int from, int to, int grains) {
        if (!isHouse(from) || !isHouse(to) || from == to || !within(grains, 1, MOST_AT_ONCE)) {
            return refuse(BAD_NUMBER);
        }
        if (ground.lying(from) < grains) {
            return refuse(NONE_SUCH);
        }
        if (plan.isGone(from) || plan.isGone(to)) {
            return refuse(CANNOT_BE);
        }
        return answer(ground.carry(from, to, grains));
    }

    public int rain() {
        return answer(ground.letRain(plan));
    }

    public boolean snow(int n) {
        if (!within(n, 0, MOST_SNOW)) {
            return refused(BAD_NUMBER);
        }
        ground.letSnow(plan, n);
        return granted();
    }

    public int night() {
        if (ground.day >= LAST_DAY) {
            return refuse(TOO_MANY);
        }
        ground.passNight(plan);
        return answer(ground.day);
    }

    // ---- what is joined, what will be

    public int cat(int cat, int what) {
        if (!within(cat, 0, plan.cats - 1)) {
            return refuse(BAD_NUMBER);
        }
        switch (what) {
            case 0:
                return answer(plan.from[cat]);
            case 1:
                return answer(plan.to[cat]);
            case 2:
                return answer(plan.takes[cat]);
            default:
                return refuse(BAD_NUMBER);
        }
    }

    public int reaches(int house) {
        int why = whyNoStep(house, true);
        if (why != 0) {
            return refuse(why);
        }
        return answer(plan.reachedFrom(house));
    }

    public int chain(int quarrel) {
        if (!isQuarrel(quarrel)) {
            return refuse(BAD_NUMBER);
        }
        return answer(plan.joinedTo(quarrel));
    }

    public int forecast(int house, int nights, int what) {
        int why = whyNoStep(house, within(nights, 0, MOST_NIGHTS) && within(what, 0, 2));
        if (why != 0) {
            return refuse(why);
        }
        Ground later = foresee();
        for (int i = 0; i < nights; i++) {
            later.passNight(plan);
        }
        return answer(later.row(what)[house]);
    }

    public int soonest(int quarrel) {
        if (!isQuarrel(quarrel)) {
            return refuse(BAD_NUMBER);
        }
        Ground later = foresee();
        for (int nights = 0; nights <= MOST_NIGHTS; nights++) {
            if (has(later.over, quarrel)) {
                return answer(nights);
            }
            later.passNight(plan);
        }
        return refuse(NONE_SUCH);
    }

    public int longest() {
        int found = NONE;
        for (int q = 0; q < plan.quarrels; q++) {
            if (!has(ground.over, q) && (found == NONE || ground.war[q] > ground.war[found])) {
                found = q;
            }
        }
        return answerIfAny(found);
    }

    public int fullest() {
        int found = NONE;
        for (int h = 0; h < plan.houses; h++) {
            if (!plan.isGone(h) && (found == NONE || ground.lying(h) > ground.lying(found))) {
                found = h;
            }
        }
        return answerIfAny(found);
    }

    public int best(int grains) {
        if (!within(grains, 1, MOST_AT_ONCE)) {
            return refuse(BAD_NUMBER);
        }
        return answerIfAny(Whose.bestFor(plan, ground, grains));
    }

    public int closest() {
        int open = plan.allQuarrels() & ~Whose.atPeace(plan, ground, NONE) & ~plan.withoutHope();
        int found = NONE;
        int least = 0;
        for (int q = 0; q < plan.quarrels; q++) {
            if (has(open, q)) {
                int lacking = could.lackOf(plan, ground, 1 << q);
                if (found == NONE || lacking < least) {
                    found = q;
                    least = lacking;
                }
            }
        }
        return answerIfAny(found);
    }

    public int level() {
        return answer(could.moved(plan, ground));
    }

    public int thaw(int house) {
        int why = whyNoStep(house, true);
        if (why != 0) {
            return refuse(why);
        }
        return answerIfAny(nightsTillThawed(1 << house));
    }

    public int thawAll() {
        return answerIfAny(nightsTillThawed(plan.allHouses()));
    }

    public int wants(int house) {
        int why = whyNoStep(house, true);
        if (why != 0) {
            return refuse(why);
        }
        return answer(Whose.wantedAt(plan, ground, house));
    }

    public int cliff() {
        int most = 0;
        for (int h = 0; h + 1 < plan.houses; h++) {
            if (!plan.isGone(h) && !plan.isGone(h + 1)) {
                most = Math.max(most, Math.abs(ground.lying(h) - ground.lying(h + 1)));
            }
        }
        return answer(most);
    }

    public int steps(int what) {
        if (!within(what, 0, 2)) {
            return refuse(BAD_NUMBER);
        }
        int many = 0;
        for (int h = 0; h < plan.houses; h++) {
            if (!plan.isGone(h) && ground.looksLike(h, what)) {
                many++;
            }
        }
        return answer(many);
    }

    public int value(int house) {
        int why = whyNoStep(house, true);
        if (why != 0) {
            return refuse(why);
        }
        return could.payFor(plan, ground, ground.lying(house)) ? answer(could.paid) : refuse(NONE_SUCH);
    }

    public int beside(int house) {
        if (!isHouse(house)) {
            return refuse(BAD_NUMBER);
        }
        int ahead = house > 0 ? ground.lying(house - 1) : 0;
        int behind = house + 1 < plan.houses ? ground.lying(house + 1) : 0;
        return answer(ahead + behind);
    }

    public int ghosts() {
        int set = 0;
        for (int q = 0; q < plan.quarrels; q++) {
            if (plan.isGone(plan.one[q]) && plan.isGone(plan.other[q])) {
                set |= 1 << q;
            }
        }
        return answer(set);
    }

    // ---- what could be

    public int most() {
        return answer(could.greatest(plan, ground));
    }

    public int lack(int set) {
        if (!isSet(set)) {
            return refuse(BAD_NUMBER);
        }
        return answer(could.lackOf(plan, ground, set));
    }

    public int lackAt(int set, int house) {
        int why = whyNoStep(house, isSet(set));
        if (why != 0) {
            return refuse(why);
        }
        // LACK itself is NONE for such a set, so it is so at each of its STEPS.
        if ((set & plan.withoutHope()) != 0) {
            return answer(NONE);
        }
        return answer(could.lackOnStep(plan, ground, set, house));
    }

    public int freed(int quarrel) {
        if (!isQuarrel(quarrel)) {
            return refuse(BAD_NUMBER);
        }
        return answer(Whose.freedBy(plan, ground, quarrel));
    }

    public int cost(int grains) {
        if (!within(grains, 0, MOST_ON_STEP)) {
            return refuse(BAD_NUMBER);
        }
        return could.payFor(plan, ground, grains) ? answer(could.paid) : refuse(NONE_SUCH);
    }

    public int dearest(int grains) {
        if (!within(grains, 1, MOST_ON_STEP)) {
            return refuse(BAD_NUMBER);
        }
        return could.payFor(plan, ground, grains) ? answer(could.lastPrice) : refuse(NONE_SUCH);
    }

    public int quiet(int house, int left, int nights) {
        int why = whyNoStep(house, within(left, 0, MOST_AT_ONCE) && within(nights, 0, 9));
        if (why != 0) {
            return refuse(why);
        }
        return answer(Math.max(0, left + plan.washes * nights - ground.salt[house]));
    }

    public int who(int tray, int grains) {
        if (!isTray(tray) || !within(grains, 1, MOST_AT_ONCE)) {
            return refuse(BAD_NUMBER);
        }
        if (!trays[tray].there) {
            return refuse(MISSING);
        }
        if (trays[tray].size < plan.houses) {
            return refuse(NO_PLACE);
        }
        if (!could.takeMissing(plan, trays[tray].row)) {
            return refuse(BAD_IN_TRAY);
        }
        return answerIfAny(could.fewestSweepers(plan.houses, grains));
    }

    public boolean found(int house, int tasted) {
        int why = whyNoStep(house, within(tasted, 1, 4));
        if (why != 0) {
            return refused(why);
        }
        int all = ground.lying(house);
        if (all < tasted || all > MOST_ON_STEP) {
            return refused(CANNOT_BE);
        }
        long ways = waysToTaste(all, tasted);
        tellFraction(ways - waysToTaste(ground.salt[house], tasted), ways);
        return granted();
    }

    // ---- DAYS

    public int live(int seed) {
        if (!within(seed, 0, LAST_SEED)) {
            return refuse(BAD_NUMBER);
        }
        if (!now.program.there) {
            return refuse(NONE_SUCH);
        }
        life.run(plan, ground, now.program, seed);
        return answer(life.done);
    }

    public int lived(int what) {
        if (!within(what, 0, 4)) {
            return refuse(BAD_NUMBER);
        }
        if (!life.there) {
            return refuse(NONE_SUCH);
        }
        return answer(life.tally(what));
    }

    public boolean odds(int set, int seed, int many) {
        if (!isSet(set) || !within(seed, 0, LAST_SEED) || !within(many, 1, 20)
                || seed + many - 1 > LAST_SEED) {
            return refused(BAD_NUMBER);
        }
        if (!now.program.there) {
            return refused(NONE_SUCH);
        }
        int good = 0;
        for (int i = 0; i < many; i++) {
            Ground later = foresee();
            trial.run(plan, later, now.program, seed + i);
            if ((later.over & set) == set) {
                good++;
            }
        }
        tellFraction(good, many);
        return granted();
    }

    // ---- MARKS

    public int mark() {
        if (marked >= MOST_MARKS) {
            return refuse(TOO_MANY);
        }
        marks[marked].copyFrom(now);
        marked++;
        return answer(marked);
    }

    public int back() {
        if (marked <= 0) {
            return refuse(NONE_SUCH);
        }
        marked--;
        now.copyFrom(marks[marked]);
        return answer(marked);
    }

    // ---- what the calls share

    private int answer(int v) {
        status = 0;
        return v;
    }

    private int answerIfAny(int v) {
        return v == NONE ? refuse(NONE_SUCH) : answer(v);
    }

    private int refuse(int why) {
        status = why;
        return NONE;
    }

    private boolean granted() {
        status = 0;
        return true;
    }

    private boolean refused(int why) {
        status = why;
        return false;
    }

    private static boolean within(int v, int least, int greatest) {
        return v >= least && v <= greatest;
    }

    private static boolean has(int set, int i) {
        return (set >> i & 1) != 0;
    }

    private static boolean isTray(int tray) {
        return within(tray, 0, MOST_TRAYS - 1);
    }

    private boolean isHouse(int house) {
        return within(house, 0, plan.houses - 1);
    }

    private boolean isQuarrel(int quarrel) {
        return within(quarrel, 0, plan.quarrels - 1);
    }

    private boolean isGrocer(int grocer) {
        return within(grocer, 0, plan.grocers - 1);
    }

    private boolean isSet(int set) {
        return within(set, 0, plan.allQuarrels());
    }

    private int whyNoPlace(int tray, int place) {
        if (!isTray(tray)) {
            return BAD_NUMBER;
        }
        if (!trays[tray].there) {
            return MISSING;
        }
        return within(place, 0, trays[tray].size - 1) ? 0 : NO_PLACE;
    }

    private int whyNoStep(int house, boolean numbersFine) {
        if (!isHouse(house) || !numbersFine) {
            return BAD_NUMBER;
        }
        return plan.isGone(house) ? CANNOT_BE : 0;
    }

    private void putOnTape(int four) {
        for (int shift = 24; shift >= 0; shift -= 8) {
            if (onTape < MOST_TAPE) {
                tape[onTape] = four >>> shift & 255;
                onTape++;
            }
        }
    }

    private void closeText() {
        onTape = 0;
        fault = tokens.fault;
        faultPlace = tokens.place;
    }

    private Ground foresee() {
        spare.ground.copyFrom(ground);
        return spare.ground;
    }

    private int nightsTillThawed(int houses) {
        Ground later = foresee();
        for (int nights = 0; nights <= MOST_NIGHTS; nights++) {
            if (!later.hasSnow(plan, houses)) {
                return nights;
            }
            later.passNight(plan);
        }
        return NONE;
    }

    private static long waysToTaste(int grains, int tasted) {
        long ways = 1;
        for (int i = 0; i < tasted; i++) {
            ways *= Math.max(0, grains - i);
        }
        return ways;
    }

    private void tellFraction(long above, long below) {
        long a = above;
        long b = below;
        for (int i = 0; i < 1000 && b != 0; i++) {
            long rest = a % b;
            a = b;
            b = rest;
        }
        if (a > 0) {
            top = above / a;
            bottom = below / a;
        }
    }

    private static void copyRow(int[] from, int[] to) {
        System.arraycopy(from, 0, to, 0, Math.min(from.length, to.length));
    }

    private static void clearRow(int[] row) {
        for (int i = 0; i < row.length; i++) {
            row[i] = 0;
        }
    }

    /** A row of numbers of one sort. */
    private static final class Tray {
        private final long[] row = new long[MOST_PLACES];
        private boolean there;
        private int sort;
        private int size;

        void lay(int newSort, int many) {
            there = true;
            sort = newSort;
            size = many;
            for (int i = 0; i < MOST_PLACES; i++) {
                row[i] = 0;
            }
        }

        void put(int place, long v) {
            row[place] = cut(v);
        }

        private long cut(long v) {
            switch (sort) {
                case 0:
                    return (byte) v;
                case 1:
                    return (short) v;
                case 2:
                    return (int) v;
                default:
                    return v;
            }
        }

        boolean reachesTo(int place, int many) {
            return (long) place + many <= size;
        }
    }

    /** All that a MARK keeps: what was told, what became of it, the DAYS. */
    private static final class World {
        private final Plan plan = new Plan();
        private final Ground ground = new Ground();
        private final Program program = new Program();

        void clear() {
            plan.clear();
            ground.clear();
            program.clear();
        }

        void copyFrom(World from) {
            plan.copyFrom(from.plan);
            ground.copyFrom(from.ground);
            program.copyFrom(from.program);
        }
    }

    /** What a STREET's text tells and no day changes. */
    private static final class Plan {
        private final long[] names = new long[MOST_NAMES];
        private final int[] sorts = new int[MOST_NAMES];
        private final int[] numbers = new int[MOST_NAMES];
        private final int[] one = new int[MOST_QUARRELS];
        private final int[] other = new int[MOST_QUARRELS];
        private final int[] needs = new int[MOST_QUARRELS];
        private final int[] quarrelsAt = new int[MOST_HOUSES];
        private final int[] from = new int[MOST_CATS];
        private final int[] to = new int[MOST_CATS];
        private final int[] takes = new int[MOST_CATS];
        private final int[] price = new int[MOST_GROCERS];
        private final int[] sweet = new int[MOST_GROCERS];
        private int named;
        private int houses;
        private int quarrels;
        private int cats;
        private int grocers;
        private int gone;
        private int washes = WASHES_UNTOLD;
        private boolean goneCounts;

        void clear() {
            clearRow(quarrelsAt);
            named = 0;
            houses = 0;
            quarrels = 0;
            cats = 0;
            grocers = 0;
            gone = 0;
            washes = WASHES_UNTOLD;
            goneCounts = false;
        }

        void copyFrom(Plan old) {
            System.arraycopy(old.names, 0, names, 0, MOST_NAMES);
            copyRow(old.sorts, sorts);
            copyRow(old.numbers, numbers);
            copyRow(old.one, one);
            copyRow(old.other, other);
            copyRow(old.needs, needs);
            copyRow(old.quarrelsAt, quarrelsAt);
            copyRow(old.from, from);
            copyRow(old.to, to);
            copyRow(old.takes, takes);
            copyRow(old.price, price);
            copyRow(old.sweet, sweet);
            named = old.named;
            houses = old.houses;
            quarrels = old.quarrels;
            cats = old.cats;
            grocers = old.grocers;
            gone = old.gone;
            washes = old.washes;
            goneCounts = old.goneCounts;
        }

        boolean addName(long name, int sort, int number) {
            if (named >= MOST_NAMES) {
                return false;
            }
            for (int i = 0; i < named; i++) {
                if (names[i] == name) {
                    return false;
                }
            }
            names[named] = name;
            sorts[named] = sort;
            numbers[named] = number;
            named++;
            return true;
        }

        int numberOf(long name, int sort) {
            for (int i = 0; i < named; i++) {
                if (names[i] == name && sorts[i] == sort) {
                    return numbers[i];
                }
            }
            return NONE;
        }

        int allHouses() {
            return (1 << houses) - 1;
        }

        int allQuarrels() {
            return (1 << quarrels) - 1;
        }

        boolean isGone(int house) {
            return (gone >> house & 1) != 0;
        }

        boolean isAt(int quarrel, int house) {
            return (quarrelsAt[house] >> quarrel & 1) != 0;
        }

        void joinAt(int quarrel) {
            quarrelsAt[one[quarrel]] |= 1 << quarrel;
            quarrelsAt[other[quarrel]] |= 1 << quarrel;
        }

        int withoutHope() {
            int set = 0;
            for (int h = 0; h < houses && !goneCounts; h++) {
                if (isGone(h)) {
                    set |= quarrelsAt[h];
                }
            }
            return set;
        }

        int reachedFrom(int house) {
            int set = 1 << house;
            // Each round but the last adds a HOUSE, so there are no more rounds than HOUSES.
            for (int round = 0; round < MOST_HOUSES; round++) {
                for (int c = 0; c < cats; c++) {
                    if (has(set, from[c])) {
                        set |= 1 << to[c];
                    }
                }
            }
            return set;
        }

        int joinedTo(int quarrel) {
            int set = 1 << quarrel;
            for (int round = 0; round < MOST_QUARRELS; round++) {
                for (int h = 0; h < houses; h++) {
                    int here = quarrelsAt[h];
                    if ((set & here) != 0) {
                        set |= here;
                    }
                }
            }
            return set;
        }
    }

    /** What lies on the STEPS and all else that days change. */
    private static final class Ground {
        private final int[] salt = new int[MOST_HOUSES];
        private final int[] sugar = new int[MOST_HOUSES];
        private final int[] snow = new int[MOST_HOUSES];
        private final int[] war = new int[MOST_QUARRELS];
        private final int[] stock = new int[MOST_GROCERS];
        private int over;
        private int day;
        private boolean rained;
        private int purse;
        private int bought;
        private int washed;
        private int swept;
        private int melted;

        void clear() {
            clearRow(salt);
            clearRow(sugar);
            clearRow(snow);
            clearRow(war);
            clearRow(stock);
            over = 0;
            day = 0;
            rained = false;
            purse = 0;
            bought = 0;
            washed = 0;
            swept = 0;
            melted = 0;
        }

        void copyFrom(Ground old) {
            copyRow(old.salt, salt);
            copyRow(old.sugar, sugar);
            copyRow(old.snow, snow);
            copyRow(old.war, war);
            copyRow(old.stock, stock);
            over = old.over;
            day = old.day;
            rained = old.rained;
            purse = old.purse;
            bought = old.bought;
            washed = old.washed;
            swept = old.swept;
            melted = old.melted;
        }

        int[] row(int what) {
            if (what == 0) {
                return salt;
            }
            return what == 1 ? sugar : snow;
        }

        int lying(int house) {
            return salt[house] + sugar[house];
        }

        /** The grains that QUARRELS can have: SNOW hides all. */
        int inSight(int house) {
            return snow[house] > 0 ? 0 : lying(house);
        }

        boolean hasRoom(int house, int grains) {
            return lying(house) + grains <= MOST_ON_STEP;
        }

        boolean hasSnow(Plan plan, int houses) {
            for (int h = 0; h < plan.houses; h++) {
                if (has(houses, h) && snow[h] > 0) {
                    return true;
                }
            }
            return false;
        }

        boolean looksLike(int house, int what) {
            if (what == 0) {
                return sugar[house] > 0;
            }
            return what == 1 ? snow[house] > 0 : snow[house] == 0 && lying(house) == 0;
        }

        void addSalt(int house, int grains) {
            salt[house] += grains;
            bought += grains;
        }

        int addBought(Plan plan, int grocer, int grains, int house) {
            int sweet = grains * plan.sweet[grocer] / SIXTEENTHS;
            stock[grocer] -= grains;
            purse -= grains * plan.price[grocer];
            addSalt(house, grains - sweet);
            sugar[house] += sweet;
            bought += sweet;
            return sweet;
        }

        int clearStep(int house) {
            int all = lying(house);
            salt[house] = 0;
            sugar[house] = 0;
            swept += all;
            return all;
        }

        /** Brings so many grains, or all there are, from one STEP to another: how many are SALT. */
        int carry(int from, int to, int grains) {
            int salty = Math.min(grains, salt[from]);
            int sweet = Math.min(grains - salty, sugar[from]);
            salt[from] -= salty;
            sugar[from] -= sweet;
            salt[to] += salty;
            sugar[to] += sweet;
            return salty;
        }

        int letRain(Plan plan) {
            int away = 0;
            for (int h = 0; h < plan.houses; h++) {
                int salty = Math.min(plan.washes, salt[h]);
                away += sugar[h] + salty;
                sugar[h] = 0;
                salt[h] -= salty;
            }
            washed += away;
            rained = true;
            return away;
        }

        void letSnow(Plan plan, int n) {
            for (int h = 0; h < plan.houses; h++) {
                if (!plan.isGone(h)) {
                    snow[h] = Math.min(MOST_SNOW, snow[h] + n);
                }
            }
        }

        void passNight(Plan plan) {
            sendCats(plan);
            meltSnow(plan);
            int peaceful = Whose.atPeace(plan, this, NONE);
            over = rained ? peaceful : over | peaceful;
            countWar(plan);
            day = Math.min(LAST_DAY, day + 1);
            rained = false;
        }

        private void sendCats(Plan plan) {
            for (int c = 0; c < plan.cats; c++) {
                if (snow[plan.from[c]] == 0) {
                    carry(plan.from[c], plan.to[c], plan.takes[c]);
                }
            }
        }

        private void meltSnow(Plan plan) {
            for (int h = 0; h < plan.houses; h++) {
                int gone = Math.min(salt[h], snow[h]);
                salt[h] -= gone;
                snow[h] -= gone;
                melted += gone;
            }
        }

        private void countWar(Plan plan) {
            for (int q = 0; q < plan.quarrels; q++) {
                if (!has(over, q)) {
                    war[q]++;
                }
            }
        }
    }

    /** WHOSE the grains are, and what follows from it. */
    private static final class Whose {
        static int shareOf(Plan plan, Ground ground, int quarrel, int house) {
            int left = ground.inSight(house);
            for (int q = 0; q < quarrel; q++) {
                if (plan.isAt(q, house)) {
                    left -= Math.min(left, plan.needs[q]);
                }
            }
            return Math.min(left, plan.needs[quarrel]);
        }

        static int ownerOf(Plan plan, Ground ground, int house, int k) {
            int given = 0;
            for (int q = 0; q < plan.quarrels; q++) {
                if (plan.isAt(q, house)) {
                    given += shareOf(plan, ground, q, house);
                    if (k < given) {
                        return q;
                    }
                }
            }
            return NONE;
        }

        static int leftOver(Plan plan, Ground ground, int house) {
            int left = ground.lying(house);
            for (int q = 0; q < plan.quarrels; q++) {
                if (plan.isAt(q, house)) {
                    left -= shareOf(plan, ground, q, house);
                }
            }
            return left;
        }

        /** Which QUARRELS have what they NEED at a HOUSE with so many grains; one may NEED nothing. */
        private static int contentAt(Plan plan, int house, int grains, int needless) {
            if (plan.isGone(house)) {
                return plan.goneCounts ? plan.quarrelsAt[house] : 0;
            }
            int set = 0;
            int left = grains;
            for (int q = 0; q < plan.quarrels; q++) {
                if (plan.isAt(q, house)) {
                    int needs = q == needless ? 0 : plan.needs[q];
                    if (left >= needs) {
                        set |= 1 << q;
                    }
                    left -= Math.min(left, needs);
                }
            }
            return set;
        }

        /** Which QUARRELS have PEACE; one may be reckoned as if it NEEDED nothing. */
        static int atPeace(Plan plan, Ground ground, int needless) {
            int set = plan.allQuarrels();
            for (int h = 0; h < plan.houses; h++) {
                set &= ~plan.quarrelsAt[h] | contentAt(plan, h, ground.inSight(h), needless);
            }
            return set;
        }

        static int inTruce(Plan plan, Ground ground) {
            int set = plan.allQuarrels();
            for (int h = 0; h < plan.houses; h++) {
                set &= ~plan.quarrelsAt[h] | calmAt(plan, h, ground.inSight(h));
            }
            return set;
        }

        /** Which QUARRELS have a grain at a HOUSE with so many, or need none there. */
        private static int calmAt(Plan plan, int house, int grains) {
            if (plan.isGone(house)) {
                return plan.goneCounts ? plan.quarrelsAt[house] : 0;
            }
            int set = 0;
            int left = grains;
            for (int q = 0; q < plan.quarrels && left > 0; q++) {
                if (plan.isAt(q, house)) {
                    set |= 1 << q;
                    left -= plan.needs[q];
                }
            }
            return set;
        }

        static int freedBy(Plan plan, Ground ground, int quarrel) {
            int then = atPeace(plan, ground, quarrel);
            return then & ~atPeace(plan, ground, NONE) & ~(1 << quarrel);
        }

        static int wantedAt(Plan plan, Ground ground, int house) {
            int open = plan.quarrelsAt[house] & ~contentAt(plan, house, ground.inSight(house), NONE);
            int set = 0;
            for (int q = 0; q < plan.quarrels; q++) {
                if (has(open, q)) {
                    int across = plan.one[q] == house ? plan.other[q] : plan.one[q];
                    set |= contentAt(plan, across, ground.inSight(across), NONE) & 1 << q;
                }
            }
            return set;
        }

        static int bestFor(Plan plan, Ground ground, int grains) {
            int found = NONE;
            int most = 0;
            for (int h = 0; h < plan.houses; h++) {
                int many = broughtBy(plan, ground, h, grains);
                if (many > most) {
                    most = many;
                    found = h;
                }
            }
            return found;
        }

        private static int broughtBy(Plan plan, Ground ground, int house, int grains) {
            if (plan.isGone(house) || ground.snow[house] > 0) {
                return 0;
            }
            // Only what wants for nothing across the street can come to PEACE by this STEP alone.
            int then = contentAt(plan, house, ground.lying(house) + grains, NONE);
            return Integer.bitCount(then & wantedAt(plan, ground, house));
        }
    }

    /** What could be, by what lies there; the rows are kept to be used again. */
    private static final class Could {
        private final int[] asked = new int[MOST_HOUSES];
        private final int[] missing = new int[MOST_HOUSES];
        private final int[] strength = new int[MOST_HOUSES];
        private int paid;
        private int lastPrice;

        int greatest(Plan plan, Ground ground) {
            int never = plan.withoutHope();
            int found = 0;
            int most = 0;
            for (int set = 1; set <= plan.allQuarrels(); set++) {
                int many = Integer.bitCount(set);
                if (many > most && (set & never) == 0 && isEnough(plan, ground, set)) {
                    most = many;
                    found = set;
                }
            }
            return found;
        }

        private boolean isEnough(Plan plan, Ground ground, int set) {
            askFor(plan, set);
            for (int h = 0; h < plan.houses; h++) {
                if (!plan.isGone(h) && asked[h] > ground.inSight(h)) {
                    return false;
                }
            }
            return true;
        }

        private void askFor(Plan plan, int set) {
            clearRow(asked);
            for (int q = 0; q < plan.quarrels; q++) {
                if (has(set, q)) {
                    asked[plan.one[q]] += plan.needs[q];
                    asked[plan.other[q]] += plan.needs[q];
                }
            }
        }

        int lackOf(Plan plan, Ground ground, int set) {
            if ((set & plan.withoutHope()) != 0) {
                return NONE;
            }
            int sum = 0;
            for (int h = 0; h < plan.houses; h++) {
                if (!plan.isGone(h)) {
                    sum += lackOnStep(plan, ground, set, h);
                }
            }
            return sum;
        }

        int lackOnStep(Plan plan, Ground ground, int set, int house) {
            askFor(plan, set);
            return Math.max(0, asked[house] - ground.lying(house));
        }

        /** LEVEL: all above the even share goes, but one more may stay where the sum leaves a rest. */
        int moved(Plan plan, Ground ground) {
            int many = 0;
            int sum = 0;
            for (int h = 0; h < plan.houses; h++) {
                if (!plan.isGone(h)) {
                    many++;
                    sum += ground.lying(h);
                }
            }
            if (many == 0) {
                return 0;
            }
            int even = sum / many;
            int above = 0;
            int higher = 0;
            for (int h = 0; h < plan.houses; h++) {
                if (!plan.isGone(h) && ground.lying(h) > even) {
                    above += ground.lying(h) - even;
                    higher++;
                }
            }
            return above - Math.min(higher, sum % many);
        }

        /** Buys in thought from the cheapest on; false if all STOCKS are too small. */
        boolean payFor(Plan plan, Ground ground, int grains) {
            int left = grains;
            int asked = 0;
            paid = 0;
            lastPrice = 0;
            for (int i = 0; i < plan.grocers && left > 0; i++) {
                int g = cheapest(plan, asked);
                if (g != NONE) {
                    asked |= 1 << g;
                    int taken = Math.min(left, ground.stock[g]);
                    left -= taken;
                    paid += taken * plan.price[g];
                    lastPrice = plan.price[g];
                }
            }
            return left == 0;
        }

        private static int cheapest(Plan plan, int without) {
            int found = NONE;
            for (int g = 0; g < plan.grocers; g++) {
                if (!has(without, g) && (found == NONE || plan.price[g] < plan.price[found])) {
                    found = g;
                }
            }
            return found;
        }

        boolean takeMissing(Plan plan, long[] row) {
            for (int h = 0; h < plan.houses; h++) {
                long most = plan.isGone(h) ? 0 : MOST_ON_STEP;
                if (row[h] < 0 || row[h] > most) {
                    return false;
                }
                missing[h] = (int) row[h];
            }
            return true;
        }

        int fewestSweepers(int houses, int grains) {
            int found = NONE;
            int fewest = houses + 1;
            for (int set = 0; set < 1 << houses; set++) {
                int many = Integer.bitCount(set);
                if (many < fewest && isExplained(houses, set, grains)) {
                    fewest = many;
                    found = set;
                }
            }
            return found;
        }

        /** Along the row, whoever can't sweep further on sweeps first: nothing is wasted so. */
        private boolean isExplained(int houses, int set, int grains) {
            for (int h = 0; h < houses; h++) {
                strength[h] = has(set, h) ? grains : 0;
            }
            for (int h = 0; h < houses; h++) {
                int left = missing[h];
                for (int near = Math.max(0, h - 1); near <= h + 1 && near < houses; near++) {
                    int swept = Math.min(left, strength[near]);
                    strength[near] -= swept;
                    left -= swept;
                }
                if (left > 0) {
                    return false;
                }
            }
            return true;
        }
    }

    /** Cuts a text into TOKENS, one ahead, and keeps the FAULT at which reading ended. */
    private static final class Tokens {
        private final int[] text;
        private int length;
        private int next;
        private int kind;
        private int start;
        private int number;
        private long name;
        private int taken;
        private int fault;
        private int place = NONE;

        Tokens(int[] tape) {
            text = tape;
        }

        void begin(int newLength) {
            length = Math.min(newLength, text.length);
            next = 0;
            fault = 0;
            place = NONE;
            advance();
        }

        void advance() {
            while (next < length && (text[next] == ' ' || text[next] == '\n')) {
                next++;
            }
            start = next;
            if (next >= length) {
                kind = ENDED;
            } else if (isLetter(text[next])) {
                cutWord();
                kind = next - start > MOST_LETTERS ? LONG_WORD : kindOfWord(name);
            } else if (isDigit(text[next])) {
                cutNumber();
            } else {
                cutSign();
            }
        }

        private static boolean isLetter(int c) {
            return c >= 'a' && c <= 'z';
        }

        private static boolean isDigit(int c) {
            return c >= '0' && c <= '9';
        }

        private void cutWord() {
            name = 0;
            while (next < length && isLetter(text[next])) {
                if (next - start < MOST_LETTERS) {
                    name = name * 27 + text[next] - 'a' + 1;
                }
                next++;
            }
        }

        private static int kindOfWord(long name) {
            int word = FIRST_WORD;
            long packed = 0;
            for (int i = 0; i < WORDS.length(); i++) {
                char c = WORDS.charAt(i);
                if (c != ' ') {
                    packed = packed * 27 + c - 'a' + 1;
                } else if (packed == name) {
                    return word;
                } else {
                    packed = 0;
                    word++;
                }
            }
            return NAME;
        }

        private void cutNumber() {
            number = 0;
            while (next < length && isDigit(text[next])) {
                if (next - start < MOST_DIGITS) {
                    number = number * 10 + text[next] - '0';
                }
                next++;
            }
            kind = next - start > MOST_DIGITS ? NO_TOKEN : NUMBER;
        }

        private void cutSign() {
            int c = text[next];
            kind = c == ';' || c == '<' || c == '>' || c == '=' ? c : NO_TOKEN;
            next++;
        }

        /** Ends the reading at this TOKEN; what is no TOKEN at all is so ahead of any other FAULT. */
        boolean wrong(int why) {
            fault = kind == NO_TOKEN ? NOT_A_TOKEN : why;
            place = start;
            return false;
        }

        boolean pass(int wanted) {
            if (kind != wanted) {
                return wrong(CANNOT_STAND);
            }
            advance();
            return true;
        }

        boolean passNumber(int least, int greatest) {
            if (kind != NUMBER) {
                return wrong(CANNOT_STAND);
            }
            if (!within(number, least, greatest)) {
                return wrong(NUMBER_OUT);
            }
            taken = number;
            advance();
            return true;
        }

        /** Finds what this NAME is of, without going past it: it may be wrong in other ways yet. */
        boolean findName(Plan plan, int sort) {
            if (kind != NAME) {
                return wrong(CANNOT_STAND);
            }
            taken = plan.numberOf(name, sort);
            return taken != NONE || wrong(BAD_NAME);
        }
    }

    /** Reads a STREET into a World that is thrown away if there is a FAULT. */
    private static final class StreetReader {
        private final Tokens in;
        private final World world;
        private final Plan plan;
        private boolean washesTold;
        private boolean countsTold;

        StreetReader(Tokens tokens, World aim) {
            in = tokens;
            world = aim;
            plan = aim.plan;
        }

        boolean takeText() {
            world.clear();
            washesTold = false;
            countsTold = false;
            boolean fine = true;
            for (int parts = 0; parts <= MOST_TAPE && fine && in.kind != ENDED; parts++) {
                switch (in.kind) {
                    case HOUSE:
                        fine = takeHouse();
                        break;
                    case QUARREL:
                        fine = takeQuarrel();
                        break;
                    case CAT:
                        fine = takeCat();
                        break;
                    case GROCER:
                        fine = takeGrocer();
                        break;
                    case RAIN:
                        fine = takeWashes();
                        break;
                    case GONE:
                        fine = takeCounts();
                        break;
                    default:
                        fine = in.wrong(CANNOT_STAND);
                        break;
                }
            }
            return fine;
        }

        /** Passes the PART's first WORD and the NAME behind it. */
        private boolean takeNew(int sort, int number, int most) {
            if (number >= most) {
                return in.wrong(ONE_MORE);
            }
            in.advance();
            if (in.kind != NAME) {
                return in.wrong(CANNOT_STAND);
            }
            if (!plan.addName(in.name, sort, number)) {
                return in.wrong(BAD_NAME);
            }
            in.advance();
            return true;
        }

        private boolean takeHouse() {
            int house = plan.houses;
            if (!takeNew(HOUSE, house, MOST_HOUSES)) {
                return false;
            }
            plan.houses++;
            boolean grainsTold = in.kind == SALT || in.kind == SUGAR;
            if (!takeGrains(SALT, world.ground.salt, house)
                    || !takeGrains(SUGAR, world.ground.sugar, house)) {
                return false;
            }
            if (in.kind == GONE) {
                if (grainsTold) {
                    return in.wrong(NOT_ALLOWED);
                }
                plan.gone |= 1 << house;
                in.advance();
            }
            return in.pass(';');
        }

        private boolean takeGrains(int word, int[] row, int house) {
            if (in.kind != word) {
                return true;
            }
            in.advance();
            if (!in.passNumber(0, 999)) {
                return false;
            }
            row[house] = in.taken;
            return true;
        }

        private boolean takeQuarrel() {
            int quarrel = plan.quarrels;
            if (!takeNew(QUARREL, quarrel, MOST_QUARRELS)) {
                return false;
            }
            if (!in.pass(OF) || !takeEnd(plan.one, quarrel, NONE, 0)) {
                return false;
            }
            if (!in.pass(AND) || !takeEnd(plan.other, quarrel, plan.one[quarrel], 0)) {
                return false;
            }
            if (!in.pass(NEEDS) || !in.passNumber(1, 99)) {
                return false;
            }
            plan.needs[quarrel] = in.taken;
            plan.joinAt(quarrel);
            plan.quarrels++;
            return in.pass(';');
        }

        private boolean takeCat() {
            int cat = plan.cats;
            if (!takeNew(CAT, cat, MOST_CATS)) {
                return false;
            }
            if (!in.pass(FROM) || !takeEnd(plan.from, cat, NONE, plan.gone)) {
                return false;
            }
            if (!in.pass(TO) || !takeEnd(plan.to, cat, plan.from[cat], plan.gone)) {
                return false;
            }
            if (!in.pass(TAKES) || !in.passNumber(1, 99)) {
                return false;
            }
            plan.takes[cat] = in.taken;
            plan.cats++;
            return in.pass(';');
        }

        /** A HOUSE at one end of a QUARREL or a CAT's way: not the one at the other, none of a set. */
        private boolean takeEnd(int[] row, int i, int notThis, int notThese) {
            if (!in.findName(plan, HOUSE)) {
                return false;
            }
            if (in.taken == notThis || has(notThese, in.taken)) {
                return in.wrong(NOT_ALLOWED);
            }
            row[i] = in.taken;
            in.advance();
            return true;
        }

        private boolean takeGrocer() {
            int grocer = plan.grocers;
            if (!takeNew(GROCER, grocer, MOST_GROCERS)) {
                return false;
            }
            if (!in.pass(STOCK) || !in.passNumber(0, 999)) {
                return false;
            }
            world.ground.stock[grocer] = in.taken;
            if (!in.pass(PRICE) || !in.passNumber(1, 99)) {
                return false;
            }
            plan.price[grocer] = in.taken;
            plan.sweet[grocer] = 0;
            if (in.kind == SWEET) {
                in.advance();
                if (!in.passNumber(0, SIXTEENTHS)) {
                    return false;
                }
                plan.sweet[grocer] = in.taken;
            }
            plan.grocers++;
            return in.pass(';');
        }

        private boolean takeWashes() {
            in.advance();
            if (in.kind == WASHES && washesTold) {
                return in.wrong(NOT_ALLOWED);
            }
            if (!in.pass(WASHES) || !in.passNumber(0, 99)) {
                return false;
            }
            washesTold = true;
            plan.washes = in.taken;
            return in.pass(';');
        }

        private boolean takeCounts() {
            in.advance();
            if (in.kind == COUNTS && countsTold) {
                return in.wrong(NOT_ALLOWED);
            }
            countsTold = true;
            plan.goneCounts = true;
            return in.pass(COUNTS) && in.pass(';');
        }
    }

    /** The DAYS as rows, one for each STEP of it and one for each end. */
    private static final class Program {
        private final int[] word = new int[MOST_ROWS];
        private final int[] thing = new int[MOST_ROWS];
        private final int[] number = new int[MOST_ROWS];
        private final int[] house = new int[MOST_ROWS];
        private final int[] test = new int[MOST_ROWS];
        private final int[] partner = new int[MOST_ROWS];
        private boolean there;
        private int rows;
        private int steps;

        void clear() {
            there = false;
            rows = 0;
            steps = 0;
        }

        void copyFrom(Program old) {
            copyRow(old.word, word);
            copyRow(old.thing, thing);
            copyRow(old.number, number);
            copyRow(old.house, house);
            copyRow(old.test, test);
            copyRow(old.partner, partner);
            there = old.there;
            rows = old.rows;
            steps = old.steps;
        }
    }

    /** Reads DAYS into a Program that is thrown away if there is a FAULT. */
    private static final class DaysReader {
        private final Tokens in;
        private final Plan plan;
        private final Program program;
        private final int[] open = new int[MOST_NESTED];
        private int depth;

        DaysReader(Tokens tokens, Plan names, Program aim) {
            in = tokens;
            plan = names;
            program = aim;
        }

        boolean takeText() {
            program.clear();
            program.there = true;
            depth = 0;
            for (int i = 0; i <= MOST_DAYS_TEXT; i++) {
                if (in.kind == ENDED) {
                    return depth == 0 || in.wrong(CANNOT_STAND);
                }
                boolean fine = in.kind == END ? takeEnd() : takeStep();
                if (!fine) {
                    return false;
                }
            }
            return in.wrong(CANNOT_STAND);
        }

        private boolean takeEnd() {
            if (depth == 0 || program.rows >= MOST_ROWS) {
                return in.wrong(CANNOT_STAND);
            }
            depth--;
            int begin = open[depth];
            program.word[program.rows] = END;
            program.partner[program.rows] = begin;
            program.partner[begin] = program.rows;
            program.rows++;
            in.advance();
            return in.pass(';');
        }

        private boolean takeStep() {
            int row = program.rows;
            if (!beginStep()) {
                return false;
            }
            boolean fine = true;
            switch (program.word[row]) {
                case STREW:
                    fine = takeHouse(program.thing, row) && takeNumber(row, 1, MOST_AT_ONCE);
                    break;
                case BUY:
                    fine = takeGrocer(row) && takeNumber(row, 1, MOST_AT_ONCE) && in.pass(TO)
                            && takeHouse(program.house, row);
                    break;
                case SWEEP:
                    fine = takeHouse(program.thing, row);
                    break;
                case RAIN:
                    fine = takeNumber(row, 0, SIXTEENTHS);
                    break;
                case SNOW:
                    fine = takeNumber(row, 0, MOST_SNOW);
                    break;
                case LOOP:
                    fine = takeNumber(row, 1, 99);
                    break;
                case WHEN:
                    fine = takeTest(row);
                    break;
                default:
                    break;
            }
            return fine && in.pass(';');
        }

        /** Gives the STEP its row, and passes its WORD. */
        private boolean beginStep() {
            int word = in.kind;
            boolean nests = word == WHEN || word == LOOP;
            if (!isStepWord(word)) {
                return in.wrong(CANNOT_STAND);
            }
            if (program.steps >= MOST_STEPS || program.rows >= MOST_ROWS) {
                return in.wrong(ONE_MORE);
            }
            if (nests && depth >= MOST_NESTED) {
                return in.wrong(TOO_DEEP);
            }
            if (nests) {
                open[depth] = program.rows;
                depth++;
            }
            program.word[program.rows] = word;
            program.rows++;
            program.steps++;
            in.advance();
            return true;
        }

        private static boolean isStepWord(int word) {
            return word == RAIN || word == STOP || word == LOOP || within(word, BUY, WHEN);
        }

        private boolean takeTest(int row) {
            program.test[row] = in.kind;
            if (in.kind == OVER || in.kind == TRUCE) {
                in.advance();
                if (!in.findName(plan, QUARREL)) {
                    return false;
                }
                program.thing[row] = in.taken;
                in.advance();
                return true;
            }
            if (!in.pass(LIES) || !takeHouse(program.thing, row)) {
                return false;
            }
            program.test[row] = in.kind;
            if (in.kind != '<' && in.kind != '>' && in.kind != '=') {
                return in.wrong(CANNOT_STAND);
            }
            in.advance();
            boolean fine = in.passNumber(0, MOST_ON_STEP);
            program.number[row] = in.taken;
            return fine;
        }

        private boolean takeHouse(int[] into, int row) {
            if (!in.findName(plan, HOUSE)) {
                return false;
            }
            if (plan.isGone(in.taken)) {
                return in.wrong(NOT_ALLOWED);
            }
            into[row] = in.taken;
            in.advance();
            return true;
        }

        private boolean takeGrocer(int row) {
            if (!in.findName(plan, GROCER)) {
                return false;
            }
            program.thing[row] = in.taken;
            in.advance();
            return true;
        }

        private boolean takeNumber(int row, int least, int greatest) {
            if (!in.passNumber(least, greatest)) {
                return false;
            }
            program.number[row] = in.taken;
            return true;
        }
    }

    /** Lives through the DAYS and counts what happened. */
    private static final class Life {
        private final int[] turnsLeft = new int[MOST_ROWS];
        private boolean there;
        private int seed;
        private int done;
        private int missed;
        private int rains;
        private int ended;
        private int begunAgain;
        private boolean cutOff;

        void run(Plan plan, Ground ground, Program program, int firstSeed) {
            begin(firstSeed);
            int row = 0;
            // An end is no STEP, so turns may be more than STEPS: 99 for each loop that is come to.
            for (int turn = 0; turn < 1000000 && row < program.rows; turn++) {
                if (program.word[row] == END) {
                    row = behindEnd(program, row);
                } else if (done >= MOST_DONE) {
                    cutOff = true;
                    return;
                } else {
                    done++;
                    act(plan, ground, program, row);
                    row = behindStep(plan, ground, program, row);
                }
            }
        }

        private void begin(int firstSeed) {
            there = true;
            seed = firstSeed;
            done = 0;
            missed = 0;
            rains = 0;
            ended = 0;
            begunAgain = 0;
            cutOff = false;
        }

        int tally(int what) {
            switch (what) {
                case 0:
                    return missed;
                case 1:
                    return rains;
                case 2:
                    return ended;
                case 3:
                    return begunAgain;
                default:
                    return cutOff ? 1 : 0;
            }
        }

        private int behindEnd(Program program, int row) {
            int begin = program.partner[row];
            if (program.word[begin] == LOOP) {
                turnsLeft[begin]--;
                if (turnsLeft[begin] > 0) {
                    return begin + 1;
                }
            }
            return row + 1;
        }

        private int behindStep(Plan plan, Ground ground, Program program, int row) {
            switch (program.word[row]) {
                case WHEN:
                    return holds(plan, ground, program, row) ? row + 1 : program.partner[row] + 1;
                case LOOP:
                    turnsLeft[row] = program.number[row];
                    return row + 1;
                case STOP:
                    return program.rows;
                default:
                    return row + 1;
            }
        }

        private static boolean holds(Plan plan, Ground ground, Program program, int row) {
            int thing = program.thing[row];
            switch (program.test[row]) {
                case OVER:
                    return has(ground.over, thing);
                case TRUCE:
                    return has(Whose.inTruce(plan, ground), thing);
                case '<':
                    return ground.lying(thing) < program.number[row];
                case '>':
                    return ground.lying(thing) > program.number[row];
                default:
                    return ground.lying(thing) == program.number[row];
            }
        }

        /** Does what a STEP says; when, loop, stop only say where to go on. */
        private void act(Plan plan, Ground ground, Program program, int row) {
            int thing = program.thing[row];
            int number = program.number[row];
            switch (program.word[row]) {
                case STREW:
                    tryStrew(ground, thing, number);
                    break;
                case BUY:
                    tryBuy(plan, ground, thing, number, program.house[row]);
                    break;
                case SWEEP:
                    ground.clearStep(thing);
                    break;
                case RAIN:
                    maybeRain(plan, ground, number);
                    break;
                case SNOW:
                    ground.letSnow(plan, number);
                    break;
                case NIGHT:
                    tryNight(plan, ground);
                    break;
                default:
                    break;
            }
        }

        private void tryStrew(Ground ground, int house, int grains) {
            if (ground.hasRoom(house, grains)) {
                ground.addSalt(house, grains);
            } else {
                missed++;
            }
        }

        private void tryBuy(Plan plan, Ground ground, int grocer, int grains, int house) {
            if (ground.hasRoom(house, grains) && ground.stock[grocer] >= grains) {
                ground.addBought(plan, grocer, grains, house);
            } else {
                missed++;
            }
        }

        private void maybeRain(Plan plan, Ground ground, int chance) {
            seed = (seed * 2791 + 11003) % 65536;
            if (seed / 8 % 16 < chance) {
                ground.letRain(plan);
                rains++;
            }
        }

        private void tryNight(Plan plan, Ground ground) {
            if (ground.day >= LAST_DAY) {
                missed++;
                return;
            }
            int before = ground.over;
            ground.passNight(plan);
            ended += Integer.bitCount(ground.over & ~before);
            begunAgain += Integer.bitCount(before & ~ground.over);
        }
    }
}
