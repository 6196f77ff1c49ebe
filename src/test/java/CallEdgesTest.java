/**
 * The edges of each call's numbers, promise by promise: the last that can be and the first that can't,
 * on both sides; each STATUS that the promise names, the first that holds; a refused call gives NONE or
 * false and changes nothing else.
 */
public final class CallEdgesTest {
    private static final int[] WILD = {Integer.MIN_VALUE, -2, -1, Integer.MAX_VALUE};

    public static void main(String[] args) {
        tray();
        trayAnew();
        write();
        read();
        pour();
        pourAsTheyWere();
        streetDays();
        toldStepQuarrelGrocer();
        shareWhoseNobodys();
        strewBuy();
        sweepShovel();
        snowNight();
        catReachesChain();
        forecastSoonest();
        bestThawWants();
        stepsValueBeside();
        lackFreed();
        costDearest();
        quietWho();
        foundEdges();
        liveLivedOdds();
        markBack();
        askingChangesNothing();
        Checks.finish();
    }

    // Promise 5: "TRAYS 0 to 3 .. rows of 0 to 60 numbers of 8 bits (sort 0), 16 (1), 32 (2) or 64 (3)" (1)
    private static void tray() {
        Rich.grants("tray(0, 0, 0)", x -> x.tray(0, 0, 0));
        Rich.grants("tray(3, 3, 60)", x -> x.tray(3, 3, 60));
        Rich.denies(1, "tray(4, 0, 1)", x -> x.tray(4, 0, 1));
        Rich.denies(1, "tray(0, 4, 1)", x -> x.tray(0, 4, 1));
        Rich.denies(1, "tray(0, 0, 61)", x -> x.tray(0, 0, 61));
        for (int wild : WILD) {
            Rich.denies(1, "tray " + wild, x -> x.tray(wild, 0, 1));
            Rich.denies(1, "sort " + wild, x -> x.tray(0, wild, 1));
            Rich.denies(1, "many " + wild, x -> x.tray(0, 0, wild));
        }
    }

    // Promise 5: "A TRAY is a row of so many 0s", one that was there ahead, too
    private static void trayAnew() {
        int[] many = {0, 1, 5, 60};
        for (int sort = 0; sort < 4; sort++) {
            for (int n : many) {
                SaltStreet x = new SaltStreet();
                x.tray(0, 3 - sort, 60);
                for (int i = 0; i < 60; i++) {
                    x.write(0, i, 7);
                }
                Checks.good(x, "tray anew", x.tray(0, sort, n));
                for (int i = 0; i < n; i++) {
                    Checks.good(x, "place " + i + " of " + n, x.read(0, i), 0);
                }
                Checks.refused(x, "place " + n + " of " + n, x.read(0, n), 3);
                x.tray(0, sort, 60);
                Checks.good(x, "it grows by 0s", x.read(0, 59), 0);
            }
        }
    }

    // Promise 6: "cut to its sort (1, 2, 3)"
    private static void write() {
        Rich.grants("the first place", x -> x.write(0, 0, 7));
        Rich.grants("the last place", x -> x.write(0, 4, 7));
        Rich.denies(3, "one behind the last", x -> x.write(0, 5, 7));
        Rich.denies(3, "an empty TRAY", x -> x.write(3, 0, 7));
        Rich.denies(2, "a MISSING one", x -> x.write(2, 0, 7));
        Rich.denies(1, "write(4, 0, 7)", x -> x.write(4, 0, 7));
        for (int wild : WILD) {
            Rich.denies(3, "place " + wild, x -> x.write(0, wild, 7));
            Rich.denies(2, "MISSING, ahead of place " + wild, x -> x.write(2, wild, 7));
            Rich.denies(1, "no such TRAY, ahead of place " + wild, x -> x.write(wild, wild, 7));
        }
        int[] bits = {8, 16, 32, 64};
        for (int sort = 0; sort < 4; sort++) {
            long half = 1L << bits[sort] - 1;
            long[] in = {half - 1, half, half + 1, 2 * half - 1, 2 * half, 2 * half + 1, -1, -half, -half - 1, -2 * half,
                Long.MAX_VALUE, Long.MIN_VALUE};
            SaltStreet x = new SaltStreet();
            x.tray(1, sort, 3);
            for (long v : in) {
                Checks.good(x, "write", x.write(1, 1, v));
                Checks.good(x, v + " of sort " + sort, x.read(1, 1), v << 64 - bits[sort] >> 64 - bits[sort]);
                Checks.good(x, "the place ahead of it", x.read(1, 0), 0);
                Checks.good(x, "the place behind it", x.read(1, 2), 0);
            }
        }
    }

    // Promise 7: "STATUS tells NONE from -1 (1, 2, 3)"
    private static void read() {
        Rich.asks(3, "the first place", x -> x.read(0, 0));
        Rich.asks(0, "the last place", x -> x.read(0, 4));
        Rich.asks(-1, "-1 in a place", x -> x.read(1, 1));
        Rich.refuses(3, "one behind the last", x -> x.read(0, 5));
        Rich.refuses(3, "an empty TRAY", x -> x.read(3, 0));
        Rich.refuses(2, "a MISSING one", x -> x.read(2, 0));
        Rich.refuses(1, "read(4, 0)", x -> x.read(4, 0));
        for (int wild : WILD) {
            Rich.refuses(3, "place " + wild, x -> x.read(0, wild));
            Rich.refuses(2, "MISSING, ahead of place " + wild, x -> x.read(2, wild));
            Rich.refuses(1, "no such TRAY, ahead of place " + wild, x -> x.read(wild, wild));
        }
        SaltStreet full = new SaltStreet();
        full.tray(0, 0, 60);
        Checks.good(full, "the 60th", full.write(0, 59, 5));
        Checks.good(full, "the 60th", full.read(0, 59), 5);
        Checks.refused(full, "the 61st", full.write(0, 60, 5), 3);
        Checks.refused(full, "the 61st", full.read(0, 60), 3);
    }

    // Promise 8: "(1: below 0, too; 2; 8; 3; asked in this order)"
    private static void pour() {
        Rich.grants("all of it onto itself", x -> x.pour(0, 0, 0, 0, 5));
        Rich.grants("none from the end", x -> x.pour(0, 5, 0, 5, 0));
        Rich.grants("none of an empty one", x -> x.pour(3, 0, 3, 0, 0));
        Rich.denies(3, "none from behind the end", x -> x.pour(0, 6, 0, 0, 0));
        Rich.denies(3, "none to behind the end", x -> x.pour(0, 0, 0, 6, 0));
        Rich.denies(3, "one too many", x -> x.pour(0, 0, 0, 0, 6));
        Rich.denies(3, "one too many from place 1", x -> x.pour(0, 1, 0, 0, 5));
        Rich.denies(3, "one too many at place 1", x -> x.pour(0, 0, 0, 1, 5));
        Rich.denies(3, "one of an empty one", x -> x.pour(3, 0, 3, 0, 1));
        Rich.denies(8, "unlike sorts", x -> x.pour(0, 0, 1, 0, 1));
        Rich.denies(8, "unlike sorts, none at all", x -> x.pour(0, 0, 3, 0, 0));
        Rich.denies(8, "8 ahead of 3", x -> x.pour(0, 0, 1, 99, 99));
        Rich.denies(2, "2 ahead of 8 and 3", x -> x.pour(0, 0, 2, 99, 99));
        Rich.denies(2, "2 ahead of 8 and 3", x -> x.pour(2, 99, 0, 0, 99));
        Rich.denies(1, "from 4", x -> x.pour(4, 0, 0, 0, 1));
        Rich.denies(1, "to 4", x -> x.pour(0, 0, 4, 0, 1));
        for (int wild : WILD) {
            int low = wild < 0 ? 1 : 3;
            Rich.denies(1, "from " + wild, x -> x.pour(wild, 0, 0, 0, 1));
            Rich.denies(1, "to " + wild, x -> x.pour(0, 0, wild, 0, 1));
            Rich.denies(low, "place " + wild, x -> x.pour(0, wild, 0, 0, 1));
            Rich.denies(low, "at " + wild, x -> x.pour(0, 0, 0, wild, 1));
            Rich.denies(low, "many " + wild, x -> x.pour(0, 1, 0, 1, wild));
            Rich.denies(low == 1 ? 1 : 2, "1 ahead of 2", x -> x.pour(0, 0, 2, 0, wild));
        }
        Rich.denies(3, "all of the greatest",
            x -> x.pour(0, Integer.MAX_VALUE, 0, Integer.MAX_VALUE, Integer.MAX_VALUE));
    }

    // Promise 8: "come to another one's (or its own) place on, as they were"
    private static void pourAsTheyWere() {
        for (int place = 0; place <= 4; place++) {
            for (int at = 0; at <= 4; at++) {
                for (int many = 0; many <= 4 - Math.max(place, at); many++) {
                    for (int to = 0; to < 2; to++) {
                        SaltStreet x = new SaltStreet();
                        x.tray(0, 3, 4);
                        x.tray(1, 3, 4);
                        for (int i = 0; i < 4; i++) {
                            x.write(0, i, Long.MAX_VALUE - i);
                            x.write(1, i, Long.MIN_VALUE + i);
                        }
                        Checks.good(x, "pour", x.pour(0, place, to, at, many));
                        for (int i = 0; i < 4; i++) {
                            long old = to == 0 ? Long.MAX_VALUE - i : Long.MIN_VALUE + i;
                            boolean poured = i >= at && i < at + many;
                            Checks.good(x, "place " + i + " behind pour(0, " + place + ", " + to + ", " + at + ", " + many + ")",
                                x.read(to, i), poured ? Long.MAX_VALUE - (place + i - at) : old);
                        }
                    }
                }
            }
        }
    }

    private static SaltStreet longTape() {
        SaltStreet x = Rich.make();
        for (int i = 0; i < 15; i++) {
            Checks.feed(x, "                    ");
        }
        return x;
    }

    // Promises 10 "(1: n below 0, or more than the tape has, too; 9 ..)", 11 "(1: above 300, too; 9)"
    private static void streetDays() {
        Rich.answers(0, "street(15)", x -> x.street(15));
        Rich.answers(0, "street(0)", x -> x.street(0));
        Rich.answers(0, "days(0)", x -> x.days(0));
        Rich.refuses(1, "street(21) of 20", x -> x.street(21));
        Rich.refuses(1, "days(21) of 20", x -> x.days(21));
        Rich.refuses(CallEdgesTest::longTape, 1, "days(301) of 320", x -> x.days(301));
        Rich.refuses(CallEdgesTest::longTape, 1, "days(321) of 320", x -> x.days(321));
        Rich.refuses(CallEdgesTest::longTape, 1, "street(321) of 320", x -> x.street(321));
        for (int wild : WILD) {
            Rich.refuses(1, "street of " + wild, x -> x.street(wild));
            Rich.refuses(1, "days of " + wild, x -> x.days(wild));
        }
    }

    // Promises 13, 15, 16, 17
    private static void toldStepQuarrelGrocer() {
        int[] told = {5, 3, 1, 2, 1, 25, 0, 6, 0, 4, 0};
        for (int what = 0; what <= 10; what++) {
            int asked = what;
            Rich.asks(told[what], "told(" + what + ")", x -> x.told(asked));
        }
        Rich.refuses(1, "told(11)", x -> x.told(11));
        Rich.asks(18, "step(0, 0)", x -> x.step(0, 0));
        Rich.asks(0, "step(4, 3): no QUARRELS", x -> x.step(4, 3));
        Rich.asks(5, "step(0, 3)", x -> x.step(0, 3));
        Rich.refuses(1, "step(5, 0)", x -> x.step(5, 0));
        Rich.refuses(1, "step(0, 4)", x -> x.step(0, 4));
        Rich.refuses(1, "step(2, 4), 1 ahead of 7", x -> x.step(2, 4));
        Rich.refuses(7, "step(2, 0)", x -> x.step(2, 0));
        Rich.refuses(7, "step(2, 3)", x -> x.step(2, 3));
        Rich.asks(0, "quarrel(0, 0)", x -> x.quarrel(0, 0));
        Rich.asks(1, "quarrel(1, 4)", x -> x.quarrel(1, 4));
        Rich.asks(1, "OVER", x -> x.quarrel(0, 3));
        Rich.asks(0, "not OVER", x -> x.quarrel(1, 3));
        Rich.asks(1, "OVER, the last one", x -> x.quarrel(2, 3));
        Rich.refuses(1, "quarrel(3, 0)", x -> x.quarrel(3, 0));
        Rich.refuses(1, "quarrel(0, 5)", x -> x.quarrel(0, 5));
        Rich.asks(34, "grocer(0, 0)", x -> x.grocer(0, 0));
        Rich.asks(0, "grocer(1, 2)", x -> x.grocer(1, 2));
        Rich.refuses(1, "grocer(2, 0)", x -> x.grocer(2, 0));
        Rich.refuses(1, "grocer(0, 3)", x -> x.grocer(0, 3));
        for (int wild : WILD) {
            Rich.refuses(1, "told(" + wild + ")", x -> x.told(wild));
            Rich.refuses(1, "step of " + wild, x -> x.step(wild, 0));
            Rich.refuses(1, "step, what " + wild, x -> x.step(0, wild));
            Rich.refuses(1, "quarrel of " + wild, x -> x.quarrel(wild, 0));
            Rich.refuses(1, "quarrel, what " + wild, x -> x.quarrel(0, wild));
            Rich.refuses(1, "grocer of " + wild, x -> x.grocer(wild, 0));
            Rich.refuses(1, "grocer, what " + wild, x -> x.grocer(0, wild));
        }
        // Promise 14: "STATUS tells NONE from -1"
        Rich.asks(-48, "purse()", x -> x.purse());
        SaltStreet one = Checks.made("house a;grocer g stock 1 price 1;");
        Checks.good(one, "buy", one.buy(0, 1, 0), 0);
        Checks.refused(one, "a refused call", one.told(-1), 1);
        Checks.good(one, "a PURSE of -1", one.purse(), -1);
    }

    // Promises 18, 19 ("1: k below 0; 7: GONE, ahead of 6; 6: nobody's, there is none such"), 20
    private static void shareWhoseNobodys() {
        Rich.asks(4, "share(0, 0)", x -> x.share(0, 0));
        Rich.asks(3, "share(2, 1)", x -> x.share(2, 1));
        Rich.refuses(1, "share(3, 0)", x -> x.share(3, 0));
        Rich.refuses(1, "share(0, 2)", x -> x.share(0, 2));
        Rich.refuses(7, "share at a GONE one", x -> x.share(1, 1));
        Rich.refuses(1, "1 ahead of 7", x -> x.share(1, 2));
        Rich.asks(0, "the first grain", x -> x.whose(0, 0));
        Rich.asks(0, "the last of the first QUARREL", x -> x.whose(0, 3));
        Rich.asks(2, "the first of the other", x -> x.whose(0, 4));
        Rich.asks(2, "the last that is somebody's", x -> x.whose(0, 6));
        Rich.refuses(6, "the first that is nobody's", x -> x.whose(0, 7));
        Rich.refuses(6, "the last grain", x -> x.whose(0, 21));
        Rich.refuses(6, "there is none such", x -> x.whose(0, 22));
        Rich.refuses(6, "a STEP without QUARRELS", x -> x.whose(4, 0));
        Rich.refuses(6, "k of the greatest", x -> x.whose(0, Integer.MAX_VALUE));
        Rich.refuses(7, "7 ahead of 6", x -> x.whose(2, 0));
        Rich.refuses(7, "7 ahead of 6", x -> x.whose(2, Integer.MAX_VALUE));
        Rich.refuses(1, "1 ahead of 7", x -> x.whose(2, -1));
        Rich.refuses(1, "k -1", x -> x.whose(0, -1));
        Rich.refuses(1, "k of the least", x -> x.whose(0, Integer.MIN_VALUE));
        Rich.refuses(1, "whose(5, 0)", x -> x.whose(5, 0));
        Rich.asks(15, "nobodys(0)", x -> x.nobodys(0));
        Rich.asks(3, "nobodys(4)", x -> x.nobodys(4));
        Rich.refuses(7, "nobodys(2)", x -> x.nobodys(2));
        Rich.refuses(1, "nobodys(5)", x -> x.nobodys(5));
        for (int wild : WILD) {
            Rich.refuses(1, "share of " + wild, x -> x.share(wild, 0));
            Rich.refuses(1, "share, side " + wild, x -> x.share(0, wild));
            Rich.refuses(1, "whose of " + wild, x -> x.whose(wild, 0));
            Rich.refuses(1, "nobodys of " + wild, x -> x.nobodys(wild));
        }
    }

    private static SaltStreet brimful() {
        SaltStreet x = Rich.make();
        for (int i = 0; i < 9; i++) {
            x.strew(0, 999);
        }
        x.strew(0, 9999 - 22 - 9 * 999);
        return x;
    }

    private static SaltStreet oneShort() {
        SaltStreet x = brimful();
        x.shovel(0, 1, 1);
        return x;
    }

    // Promises 25 "(1; 4: above 9,999 in all; 7)", 26 "(1; 4: above 9,999; 6: the STOCK has not so many; 7)"
    private static void strewBuy() {
        Rich.answers(19, "strew(0, 1)", x -> x.strew(0, 1));
        Rich.answers(1017, "strew(0, 999)", x -> x.strew(0, 999));
        Rich.refuses(1, "strew(0, 0)", x -> x.strew(0, 0));
        Rich.refuses(1, "strew(0, 1000)", x -> x.strew(0, 1000));
        Rich.refuses(1, "strew(5, 1)", x -> x.strew(5, 1));
        Rich.refuses(7, "strew(2, 1)", x -> x.strew(2, 1));
        Rich.refuses(7, "strew(2, 999)", x -> x.strew(2, 999));
        Rich.refuses(1, "1 ahead of 7", x -> x.strew(2, 1000));
        Rich.refuses(CallEdgesTest::brimful, 4, "9,999 and one", x -> x.strew(0, 1));
        Rich.refuses(CallEdgesTest::oneShort, 4, "9,998 and two", x -> x.strew(0, 2));
        Rich.refuses(CallEdgesTest::brimful, 1, "1 ahead of 4", x -> x.strew(0, 1000));
        SaltStreet one = oneShort();
        Checks.good(one, "9,998 and one", one.strew(0, 1), 9995);
        Rich.answers(0, "buy(0, 1, 0)", x -> x.buy(0, 1, 0));
        Rich.answers(10, "all that it has", x -> x.buy(0, 34, 0));
        Rich.refuses(6, "one more", x -> x.buy(0, 35, 0));
        Rich.refuses(6, "buy(0, 999, 0)", x -> x.buy(0, 999, 0));
        Rich.refuses(1, "buy(0, 1000, 0)", x -> x.buy(0, 1000, 0));
        Rich.refuses(1, "buy(0, 0, 0)", x -> x.buy(0, 0, 0));
        Rich.refuses(1, "buy(2, 1, 0)", x -> x.buy(2, 1, 0));
        Rich.refuses(1, "buy(0, 1, 5)", x -> x.buy(0, 1, 5));
        Rich.refuses(7, "onto a GONE one", x -> x.buy(0, 34, 2));
        Rich.refuses(6, "6 ahead of 7", x -> x.buy(0, 35, 2));
        Rich.refuses(1, "1 ahead of 6 and 7", x -> x.buy(0, 1000, 2));
        Rich.refuses(CallEdgesTest::brimful, 4, "9,999 and one", x -> x.buy(0, 1, 0));
        Rich.refuses(CallEdgesTest::oneShort, 4, "9,998 and two", x -> x.buy(0, 2, 0));
        Rich.refuses(CallEdgesTest::brimful, 4, "4 ahead of 6", x -> x.buy(0, 999, 0));
        Rich.refuses(CallEdgesTest::brimful, 1, "1 ahead of 4", x -> x.buy(0, 1000, 0));
        SaltStreet two = oneShort();
        Checks.good(two, "9,998 and one", two.buy(0, 1, 0), 0);
        for (int wild : WILD) {
            Rich.refuses(1, "strew onto " + wild, x -> x.strew(wild, 1));
            Rich.refuses(1, "strew of " + wild, x -> x.strew(0, wild));
            Rich.refuses(1, "buy from " + wild, x -> x.buy(wild, 1, 0));
            Rich.refuses(1, "buy of " + wild, x -> x.buy(0, wild, 0));
            Rich.refuses(1, "buy onto " + wild, x -> x.buy(0, 1, wild));
        }
    }

    // Promises 27, 28 "(1: one and itself, too; 6: it has not so many; 7)"
    private static void sweepShovel() {
        Rich.answers(22, "sweep(0)", x -> x.sweep(0));
        Rich.answers(3, "the last HOUSE", x -> x.sweep(4));
        Rich.refuses(7, "sweep(2)", x -> x.sweep(2));
        Rich.refuses(1, "sweep(5)", x -> x.sweep(5));
        Rich.answers(1, "shovel of 1", x -> x.shovel(0, 1, 1));
        Rich.answers(18, "all that it has", x -> x.shovel(0, 1, 22));
        Rich.refuses(6, "one more", x -> x.shovel(0, 1, 23));
        Rich.refuses(6, "shovel of 999", x -> x.shovel(0, 1, 999));
        Rich.refuses(1, "shovel of 1000", x -> x.shovel(0, 1, 1000));
        Rich.refuses(1, "shovel of 0", x -> x.shovel(0, 1, 0));
        Rich.refuses(1, "one and itself", x -> x.shovel(0, 0, 1));
        Rich.refuses(1, "one and itself, GONE", x -> x.shovel(2, 2, 1));
        Rich.refuses(1, "from 5", x -> x.shovel(5, 0, 1));
        Rich.refuses(1, "to 5", x -> x.shovel(0, 5, 1));
        Rich.refuses(7, "to a GONE one", x -> x.shovel(0, 2, 22));
        Rich.refuses(6, "to a GONE one, 6 ahead of 7", x -> x.shovel(0, 2, 23));
        Rich.refuses(6, "from a GONE one: it has none", x -> x.shovel(2, 0, 1));
        SaltStreet full = brimful();
        Checks.good(full, "999 of 9,999", full.shovel(0, 1, 999), 999);
        Checks.good(full, "and back: no STEP is too full", full.shovel(1, 0, 999), 999);
        Checks.good(full, "and more", full.shovel(1, 0, 23), 18);
        Checks.good(full, "SALT", full.step(0, 0), 9995 + 18);
        for (int wild : WILD) {
            Rich.refuses(1, "sweep of " + wild, x -> x.sweep(wild));
            Rich.refuses(1, "shovel from " + wild, x -> x.shovel(wild, 0, 1));
            Rich.refuses(1, "shovel to " + wild, x -> x.shovel(0, wild, 1));
            Rich.refuses(1, "shovel of " + wild, x -> x.shovel(0, 1, wild));
        }
    }

    private static SaltStreet dayNearTheLast() {
        SaltStreet x = Rich.make();
        Checks.refused(x, "a FAULT empties the tape", x.days(1), 9);
        Checks.days(x, "loop 99;night;end;");
        for (int i = 0; i < 10; i++) {
            x.live(0);
        }
        return x;
    }

    private static SaltStreet lastDay() {
        SaltStreet x = dayNearTheLast();
        Checks.days(x, "loop 8;night;end;");
        x.live(0);
        x.rain();
        return x;
    }

    // Promises 30 (1), 31 "(4: DAY 999)"
    private static void snowNight() {
        Rich.grants("snow(0)", x -> x.snow(0));
        Rich.grants("snow(99)", x -> x.snow(99));
        Rich.denies(1, "snow(100)", x -> x.snow(100));
        for (int wild : WILD) {
            Rich.denies(1, "snow of " + wild, x -> x.snow(wild));
        }
        Rich.answers(2, "night()", x -> x.night());
        Checks.due("DAY 999", lastDay().told(4), 999);
        Rich.refuses(CallEdgesTest::lastDay, 4, "night() at DAY 999", x -> x.night());
        SaltStreet y = dayNearTheLast();
        Checks.good(y, "DAY 991", y.told(4), 991);
        for (int day = 992; day <= 999; day++) {
            Checks.good(y, "up to DAY 999", y.night(), day);
        }
        Checks.refused(y, "no DAY 1,000", y.night(), 4);
    }

    // Promises 32, 33, 34
    private static void catReachesChain() {
        int[] cat = {0, 3, 2};
        for (int what = 0; what < 3; what++) {
            int asked = what;
            Rich.asks(cat[what], "cat(0, " + what + ")", x -> x.cat(0, asked));
        }
        Rich.refuses(1, "cat(1, 0)", x -> x.cat(1, 0));
        Rich.refuses(1, "cat(0, 3)", x -> x.cat(0, 3));
        Rich.asks(9, "reaches(0)", x -> x.reaches(0));
        Rich.asks(16, "the last HOUSE", x -> x.reaches(4));
        Rich.refuses(7, "reaches(2)", x -> x.reaches(2));
        Rich.refuses(1, "reaches(5)", x -> x.reaches(5));
        Rich.asks(7, "chain(0)", x -> x.chain(0));
        Rich.asks(7, "the last QUARREL", x -> x.chain(2));
        Rich.refuses(1, "chain(3)", x -> x.chain(3));
        for (int wild : WILD) {
            Rich.refuses(1, "cat of " + wild, x -> x.cat(wild, 0));
            Rich.refuses(1, "cat, what " + wild, x -> x.cat(0, wild));
            Rich.refuses(1, "reaches of " + wild, x -> x.reaches(wild));
            Rich.refuses(1, "chain of " + wild, x -> x.chain(wild));
        }
    }

    // Promises 35 "for so many NIGHTS (0 to 60)", 36 "(1; 6: not in 60)"
    private static void forecastSoonest() {
        Rich.asks(18, "no NIGHTS", x -> x.forecast(0, 0, 0));
        Rich.asks(0, "60 NIGHTS", x -> x.forecast(0, 60, 0));
        Rich.asks(6, "60 NIGHTS, SUGAR", x -> x.forecast(3, 60, 1));
        Rich.asks(0, "SNOW", x -> x.forecast(4, 60, 2));
        Rich.refuses(1, "61 NIGHTS", x -> x.forecast(0, 61, 0));
        Rich.refuses(1, "what 3", x -> x.forecast(0, 0, 3));
        Rich.refuses(1, "forecast(5, 0, 0)", x -> x.forecast(5, 0, 0));
        Rich.refuses(7, "forecast(2, 60, 2)", x -> x.forecast(2, 60, 2));
        Rich.refuses(1, "1 ahead of 7", x -> x.forecast(2, 61, 0));
        Rich.refuses(1, "1 ahead of 7", x -> x.forecast(2, 0, 3));
        Rich.asks(0, "it is OVER", x -> x.soonest(0));
        Rich.refuses(6, "never", x -> x.soonest(1));
        Rich.refuses(1, "soonest(3)", x -> x.soonest(3));
        for (int wild : WILD) {
            Rich.refuses(1, "forecast of " + wild, x -> x.forecast(wild, 0, 0));
            Rich.refuses(1, "forecast, nights " + wild, x -> x.forecast(0, wild, 0));
            Rich.refuses(1, "forecast, what " + wild, x -> x.forecast(0, 0, wild));
            Rich.refuses(1, "soonest of " + wild, x -> x.soonest(wild));
        }
    }

    // Promises 39 "(1; 6: nowhere any)", 40, 42 "(1; 7: GONE, ahead of 6; 6: not in 60)", 43, 44
    private static void bestThawWants() {
        Rich.refuses(6, "nowhere any", x -> x.best(1));
        Rich.refuses(6, "nowhere any", x -> x.best(999));
        Rich.refuses(1, "best(0)", x -> x.best(0));
        Rich.refuses(1, "best(1000)", x -> x.best(1000));
        Rich.refuses(6, "closest(): all have PEACE or are HOPELESS", x -> x.closest());
        Rich.asks(0, "thaw(0)", x -> x.thaw(0));
        Rich.asks(0, "the last HOUSE", x -> x.thaw(4));
        Rich.refuses(7, "thaw(2)", x -> x.thaw(2));
        Rich.refuses(1, "thaw(5)", x -> x.thaw(5));
        Rich.asks(0, "thawAll()", x -> x.thawAll());
        Rich.asks(0, "wants(0)", x -> x.wants(0));
        Rich.asks(0, "the last HOUSE", x -> x.wants(4));
        Rich.refuses(7, "wants(2)", x -> x.wants(2));
        Rich.refuses(1, "wants(5)", x -> x.wants(5));
        for (int wild : WILD) {
            Rich.refuses(1, "best of " + wild, x -> x.best(wild));
            Rich.refuses(1, "thaw of " + wild, x -> x.thaw(wild));
            Rich.refuses(1, "wants of " + wild, x -> x.wants(wild));
        }
        Rich.Maker snowed = () -> {
            SaltStreet x = Rich.make();
            x.snow(99);
            return x;
        };
        Rich.refuses(snowed, 6, "not in 60", x -> x.thaw(4));
        Rich.refuses(snowed, 6, "not in 60", x -> x.thawAll());
        Rich.refuses(snowed, 7, "7 ahead of 6", x -> x.thaw(2));
        Rich.refuses(snowed, 6, "under SNOW nowhere any", x -> x.best(999));
    }

    private static SaltStreet dear() {
        SaltStreet x = Rich.make();
        x.strew(4, 40);
        return x;
    }

    // Promises 46, 47 "(1; 7: GONE, ahead of 6; 6: not so many in all STOCKS)", 48
    private static void stepsValueBeside() {
        int[] steps = {3, 0, 0};
        for (int what = 0; what < 3; what++) {
            int asked = what;
            Rich.asks(steps[what], "steps(" + what + ")", x -> x.steps(asked));
        }
        Rich.refuses(1, "steps(3)", x -> x.steps(3));
        Rich.asks(6, "value(4)", x -> x.value(4));
        Rich.asks(60, "value(1)", x -> x.value(1));
        Rich.refuses(7, "value(2)", x -> x.value(2));
        Rich.refuses(1, "value(5)", x -> x.value(5));
        SaltStreet all = dear();
        Checks.good(all, "43, as many as in all STOCKS", all.value(4), 18 + 34 * 3);
        Rich.Maker more = () -> {
            SaltStreet x = dear();
            x.strew(4, 1);
            return x;
        };
        Rich.refuses(more, 6, "44, one more", x -> x.value(4));
        Rich.refuses(CallEdgesTest::brimful, 6, "9,999", x -> x.value(0));
        Rich.asks(23, "the first HOUSE", x -> x.beside(0));
        Rich.asks(29, "beside a GONE one", x -> x.beside(2));
        Rich.asks(23 - 1, "beside b: c is GONE", x -> x.beside(1));
        Rich.asks(6, "the last HOUSE", x -> x.beside(4));
        Rich.refuses(1, "beside(5)", x -> x.beside(5));
        for (int wild : WILD) {
            Rich.refuses(1, "steps of " + wild, x -> x.steps(wild));
            Rich.refuses(1, "value of " + wild, x -> x.value(wild));
            Rich.refuses(1, "beside of " + wild, x -> x.beside(wild));
        }
    }

    // Promises 51 "NONE with STATUS 0 if one never can (1: a set with others)", 52, 53
    private static void lackFreed() {
        Rich.asks(0, "the empty set", x -> x.lack(0));
        Rich.asks(0, "lack(5)", x -> x.lack(5));
        Rich.asks(-1, "one never can", x -> x.lack(2));
        Rich.asks(-1, "the full set, one never can", x -> x.lack(7));
        Rich.refuses(1, "a set with others", x -> x.lack(8));
        Rich.refuses(1, "a set with others", x -> x.lack(13));
        Rich.asks(0, "the empty set", x -> x.lackAt(0, 4));
        Rich.asks(0, "lackAt(5, 0)", x -> x.lackAt(5, 0));
        Rich.asks(-1, "one never can", x -> x.lackAt(2, 0));
        Rich.refuses(1, "a set with others", x -> x.lackAt(8, 0));
        Rich.refuses(1, "lackAt(0, 5)", x -> x.lackAt(0, 5));
        Rich.refuses(7, "lackAt(0, 2)", x -> x.lackAt(0, 2));
        Rich.refuses(7, "lackAt(2, 2)", x -> x.lackAt(2, 2));
        Rich.refuses(1, "1 ahead of 7", x -> x.lackAt(8, 2));
        Rich.asks(0, "freed(0)", x -> x.freed(0));
        Rich.refuses(1, "freed(3)", x -> x.freed(3));
        for (int wild : WILD) {
            Rich.refuses(1, "lack of " + wild, x -> x.lack(wild));
            Rich.refuses(1, "lackAt of " + wild, x -> x.lackAt(wild, 0));
            Rich.refuses(1, "lackAt at " + wild, x -> x.lackAt(0, wild));
            Rich.refuses(1, "freed of " + wild, x -> x.freed(wild));
        }
    }

    // Promises 54 "(0 to 9,999) (1; 6: not so many in all STOCKS)", 55 "(1: 0, too; 6)"
    private static void costDearest() {
        Rich.asks(0, "cost(0)", x -> x.cost(0));
        Rich.asks(2, "cost(1)", x -> x.cost(1));
        Rich.asks(18, "all of the cheapest", x -> x.cost(9));
        Rich.asks(21, "one of the next", x -> x.cost(10));
        Rich.asks(18 + 34 * 3, "all STOCKS", x -> x.cost(43));
        Rich.refuses(6, "one more", x -> x.cost(44));
        Rich.refuses(6, "cost(9999)", x -> x.cost(9999));
        Rich.refuses(1, "cost(10000)", x -> x.cost(10000));
        Rich.asks(2, "dearest(1)", x -> x.dearest(1));
        Rich.asks(2, "the last of the cheapest", x -> x.dearest(9));
        Rich.asks(3, "the first of the next", x -> x.dearest(10));
        Rich.asks(3, "all STOCKS", x -> x.dearest(43));
        Rich.refuses(6, "one more", x -> x.dearest(44));
        Rich.refuses(6, "dearest(9999)", x -> x.dearest(9999));
        Rich.refuses(1, "dearest(10000)", x -> x.dearest(10000));
        Rich.refuses(1, "dearest(0)", x -> x.dearest(0));
        for (int wild : WILD) {
            Rich.refuses(1, "cost of " + wild, x -> x.cost(wild));
            Rich.refuses(1, "dearest of " + wild, x -> x.dearest(wild));
        }
    }

    private static SaltStreet missing(long... numbers) {
        SaltStreet x = Rich.make();
        x.tray(2, 3, numbers.length);
        for (int i = 0; i < numbers.length; i++) {
            x.write(2, i, numbers[i]);
        }
        return x;
    }

    // Promises 56 "so many left (0 to 999) behind so many NIGHTS (0 to 9)", 57 "(1; 2; 3; 5: not 0 to 9,999,
    // not 0 at a GONE one; 6: nobody can have; asked in this order)"
    private static void quietWho() {
        Rich.asks(0, "quiet(0, 0, 0)", x -> x.quiet(0, 0, 0));
        Rich.asks(0, "just what there is", x -> x.quiet(0, 18, 0));
        Rich.asks(1, "one more", x -> x.quiet(0, 19, 0));
        Rich.asks(999 + 27 - 18, "quiet(0, 999, 9)", x -> x.quiet(0, 999, 9));
        Rich.refuses(1, "1,000 left", x -> x.quiet(0, 1000, 0));
        Rich.refuses(1, "10 NIGHTS", x -> x.quiet(0, 0, 10));
        Rich.refuses(1, "quiet(5, 0, 0)", x -> x.quiet(5, 0, 0));
        Rich.refuses(7, "quiet(2, 999, 9)", x -> x.quiet(2, 999, 9));
        Rich.refuses(1, "1 ahead of 7", x -> x.quiet(2, 1000, 0));
        Rich.refuses(1, "1 ahead of 7", x -> x.quiet(2, 0, 10));
        for (int wild : WILD) {
            Rich.refuses(1, "quiet of " + wild, x -> x.quiet(wild, 0, 0));
            Rich.refuses(1, "quiet, left " + wild, x -> x.quiet(0, wild, 0));
            Rich.refuses(1, "quiet, nights " + wild, x -> x.quiet(0, 0, wild));
            Rich.refuses(1, "who, tray " + wild, x -> x.who(wild, 1));
            Rich.refuses(1, "who, grains " + wild, x -> x.who(0, wild));
            Rich.refuses(1, "1 ahead of 2", x -> x.who(2, wild));
        }
        Rich.refuses(1, "who(4, 1)", x -> x.who(4, 1));
        Rich.refuses(1, "who of 0", x -> x.who(0, 0));
        Rich.refuses(1, "who of 1,000", x -> x.who(0, 1000));
        Rich.refuses(1, "1 ahead of 5", x -> x.who(0, 1000));
        Rich.refuses(2, "MISSING", x -> x.who(2, 1));
        Rich.refuses(3, "none, 3 ahead of 5", x -> x.who(3, 1));
        Rich.refuses(3, "three for five HOUSES, 3 ahead of 5", x -> x.who(1, 1));
        Rich.refuses(5, "a number below 0", x -> x.who(0, 999));
        Rich.refuses(() -> missing(-1, 0, 0, 0), 3, "four for five HOUSES", x -> x.who(2, 1));
        Rich.refuses(() -> missing(0, 0, 0, 0, -1), 5, "-1 at the last", x -> x.who(2, 999));
        Rich.refuses(() -> missing(10000, 0, 0, 0, 0), 5, "10,000 at the first", x -> x.who(2, 999));
        Rich.refuses(() -> missing(1L << 32, 0, 0, 0, 0), 5, "what would be cut to 0", x -> x.who(2, 999));
        Rich.refuses(() -> missing(Long.MIN_VALUE, 0, 0, 0, 0), 5, "the least of all", x -> x.who(2, 999));
        Rich.refuses(() -> missing(0, 0, 1, 0, 0), 5, "1 at a GONE one", x -> x.who(2, 999));
        Rich.refuses(() -> missing(9999, 0, 1, 0, 0), 5, "5 ahead of 6", x -> x.who(2, 999));
        Rich.refuses(() -> missing(9999, 0, 0, 0, 0), 6, "9,999 can be, but nobody can have", x -> x.who(2, 999));
        Rich.refuses(() -> missing(1999, 0, 0, 0, 0), 6, "a and b have 1,998", x -> x.who(2, 999));
        SaltStreet both = missing(1998, 0, 0, 0, 0);
        Checks.good(both, "just so many", both.who(2, 999), 3);
        SaltStreet one = missing(0, 0, 0, 1, 0);
        Checks.good(one, "by 1", one.who(2, 1), 4);
        SaltStreet none = missing(0, 0, 0, 0, 0);
        Checks.good(none, "nothing is missing", none.who(2, 1), 0);
    }

    // Promise 58: "(1; 7: GONE, fewer grains, or above 9,999)"
    private static void foundEdges() {
        Rich.grants("found(0, 1)", x -> x.found(0, 1));
        Rich.grants("found(0, 4)", x -> x.found(0, 4));
        Rich.grants("all three that lie there", x -> x.found(4, 3));
        Rich.denies(7, "four of three", x -> x.found(4, 4));
        Rich.denies(7, "found(2, 1)", x -> x.found(2, 1));
        Rich.denies(1, "found(0, 0)", x -> x.found(0, 0));
        Rich.denies(1, "found(0, 5)", x -> x.found(0, 5));
        Rich.denies(1, "found(5, 1)", x -> x.found(5, 1));
        Rich.denies(1, "1 ahead of 7", x -> x.found(2, 5));
        for (int wild : WILD) {
            Rich.denies(1, "found of " + wild, x -> x.found(wild, 1));
            Rich.denies(1, "found by " + wild, x -> x.found(0, wild));
        }
        SaltStreet full = brimful();
        Checks.good(full, "9,999", full.found(0, 1));
        Checks.fraction(full, "9,999", 4, 9999);
        Rich.Maker above = () -> {
            SaltStreet x = brimful();
            x.shovel(1, 0, 1);
            return x;
        };
        Rich.denies(above, 7, "10,000", x -> x.found(0, 1));
        Rich.denies(above, 1, "1 ahead of 7", x -> x.found(0, 5));
    }

    private static SaltStreet withoutDays() {
        SaltStreet x = new SaltStreet();
        Checks.street(x, Rich.STREET);
        return x;
    }

    // Promises 59 "(1; 6: no DAYS)", 60 "(1; 6: there was none)", 61 "(1: the last above 9,999, too; 6: no DAYS)"
    private static void liveLivedOdds() {
        Rich.answers(2, "live(0)", x -> x.live(0));
        Rich.answers(2, "live(9999)", x -> x.live(9999));
        Rich.refuses(1, "live(10000)", x -> x.live(10000));
        Rich.refuses(CallEdgesTest::withoutDays, 6, "no DAYS", x -> x.live(0));
        Rich.refuses(CallEdgesTest::withoutDays, 1, "1 ahead of 6", x -> x.live(10000));
        Rich.asks(0, "lived(0)", x -> x.lived(0));
        Rich.asks(2, "lived(2)", x -> x.lived(2));
        Rich.asks(0, "lived(4)", x -> x.lived(4));
        Rich.refuses(1, "lived(5)", x -> x.lived(5));
        Rich.refuses(CallEdgesTest::withoutDays, 6, "there was none", x -> x.lived(4));
        Rich.refuses(CallEdgesTest::withoutDays, 1, "1 ahead of 6", x -> x.lived(5));
        Rich.grants("one seed", x -> x.odds(7, 0, 1));
        Rich.grants("twenty seeds", x -> x.odds(0, 0, 20));
        Rich.grants("up to the last seed", x -> x.odds(5, 9980, 20));
        Rich.grants("the last seed", x -> x.odds(5, 9999, 1));
        Rich.denies(1, "the last above 9,999", x -> x.odds(5, 9981, 20));
        Rich.denies(1, "the last above 9,999", x -> x.odds(5, 9999, 2));
        Rich.denies(1, "seed 10,000", x -> x.odds(5, 10000, 1));
        Rich.denies(1, "none", x -> x.odds(5, 0, 0));
        Rich.denies(1, "twenty-one", x -> x.odds(5, 0, 21));
        Rich.denies(1, "a set with others", x -> x.odds(8, 0, 1));
        Rich.denies(CallEdgesTest::withoutDays, 6, "no DAYS", x -> x.odds(7, 0, 1));
        Rich.denies(CallEdgesTest::withoutDays, 1, "1 ahead of 6", x -> x.odds(7, 9999, 2));
        for (int wild : WILD) {
            Rich.refuses(1, "live of " + wild, x -> x.live(wild));
            Rich.refuses(1, "lived of " + wild, x -> x.lived(wild));
            Rich.denies(1, "odds of " + wild, x -> x.odds(wild, 0, 1));
            Rich.denies(1, "odds from " + wild, x -> x.odds(0, wild, 1));
            Rich.denies(1, "odds by " + wild, x -> x.odds(0, 0, wild));
        }
        SaltStreet x = Rich.make();
        Checks.good(x, "odds", x.odds(5, 0, 20));
        SaltStreet y = Rich.make();
        Checks.good(y, "the same by one seed", y.odds(5, 0, 1));
        Checks.due("all stays as it is", Rich.all(x), Rich.all(y));
    }

    private static SaltStreet allMarks() {
        SaltStreet x = Rich.make();
        x.mark();
        x.strew(4, 1);
        x.mark();
        x.strew(4, 1);
        return x;
    }

    // Promises 62 "(4)", 63 "(6)"; "MARKS, at most 3"
    private static void markBack() {
        Rich.answers(2, "mark()", x -> x.mark());
        Rich.refuses(CallEdgesTest::allMarks, 4, "a fourth", x -> x.mark());
        Rich.answers(0, "back()", x -> x.back());
        Rich.refuses(CallEdgesTest::withoutDays, 6, "back() without a MARK", x -> x.back());
        SaltStreet x = allMarks();
        for (int left = 2; left >= 0; left--) {
            Checks.good(x, "back()", x.back(), left);
        }
        Checks.refused(x, "no more", x.back(), 6);
        for (int many = 1; many <= 3; many++) {
            Checks.good(x, "three again", x.mark(), many);
        }
        Checks.refused(x, "a fourth again", x.mark(), 4);
    }

    // Part ==== 5, and the calls that have no refusal at all
    private static void askingChangesNothing() {
        Rich.asks(5, "peace()", x -> x.peace());
        Rich.asks(5, "truce()", x -> x.truce());
        Rich.asks(5, "over()", x -> x.over());
        Rich.asks(2, "hopeless()", x -> x.hopeless());
        Rich.asks(1, "longest()", x -> x.longest());
        Rich.asks(1, "fullest()", x -> x.fullest());
        Rich.asks(17, "level()", x -> x.level());
        Rich.asks(3, "cliff()", x -> x.cliff());
        Rich.asks(0, "ghosts()", x -> x.ghosts());
        Rich.asks(5, "most()", x -> x.most());
        Rich.answers(23, "rain()", x -> x.rain());
        Rich.Maker none = () -> {
            SaltStreet x = new SaltStreet();
            Checks.feed(x, "house z salt 9;");
            return x;
        };
        Rich.refuses(none, 6, "longest() without QUARRELS", x -> x.longest());
        Rich.refuses(none, 6, "fullest() without STEPS", x -> x.fullest());
        Rich.refuses(none, 6, "closest() without QUARRELS", x -> x.closest());
        Rich.refuses(none, 6, "best(1) without STEPS", x -> x.best(1));
    }
}
