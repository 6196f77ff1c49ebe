/** Part ==== 3, sentence by sentence: what could be, what will be, who it was, at their limits. */
public final class CouldEdgesTest {
    private static final int NONE = SaltStreet.NONE;

    public static void main(String[] args) {
        mostOfWhatLies();
        ofSeveralTheLeast();
        lackStepByStep();
        freedByOne();
        chainsToTheEnd();
        reachesInWhateverOrder();
        forecastsUpTo60();
        soonestUpTo60();
        thawUpTo60();
        bestIsTheFirst();
        closestIsTheFirst();
        levelByOne();
        wantsOnThisSide();
        cliffsOfNeighbours();
        looksOfSteps();
        costOfAllStocks();
        quietAtLeast0();
        whoAtTheEndsOfTheRow();
        whoIsTheLeast();
        foundByAll();
        longestAndFullestAreTheFirst();
        hopelessAndGhosts();
        Checks.finish();
    }

    private static void maybe(SaltStreet x, String call, int got, int want) {
        if (want == NONE) {
            Checks.refused(x, call, got, 6);
        } else {
            Checks.good(x, call, got, want);
        }
    }

    // "on each STEP they NEED together no more than lies there (under SNOW: nothing)"
    private static void mostOfWhatLies() {
        for (int grains = 0; grains <= 8; grains++) {
            SaltStreet x = Checks.made("house a salt " + grains + ";house b salt 99;quarrel p of a and b needs 5;"
                    + "quarrel q of b and a needs 2;");
            int want = grains >= 7 ? 3 : grains >= 5 ? 1 : grains >= 2 ? 2 : 0;
            Checks.good(x, "most() of " + grains, x.most(), want);
        }
        SaltStreet none = new SaltStreet();
        Checks.good(none, "no QUARRELS", none.most(), 0);
        StringBuilder s = new StringBuilder("house a salt 792;house b salt 792;");
        for (char c = 'p'; c <= 'w'; c++) {
            s.append("quarrel ").append(c).append(" of a and b needs 99;");
        }
        SaltStreet all = Checks.made(s.toString());
        Checks.good(all, "all eight", all.most(), 255);
        all.shovel(0, 1, 1);
        Checks.good(all, "seven: the least as a number", all.most(), 127);
        all.snow(1);
        Checks.good(all, "under SNOW nothing", all.most(), 0);
        SaltStreet gone = Checks.made("house a salt 3;house b gone;house c gone;quarrel p of a and b needs 4;"
                + "quarrel q of b and c needs 99;quarrel r of c and a needs 3;");
        Checks.good(gone, "it is not of the set", gone.most(), 0);
        SaltStreet counts = Checks.made("gone counts;house a salt 3;house b gone;house c gone;"
                + "quarrel p of a and b needs 4;quarrel q of b and c needs 99;quarrel r of c and a needs 3;");
        Checks.good(counts, "GONE needs nothing", counts.most(), 6);
        counts.snow(1);
        Checks.good(counts, "two GONE ones need nothing under SNOW", counts.most(), 2);
    }

    // "(by how many; of several the least as a number, 1 for QUARREL 0 ..)"
    private static void ofSeveralTheLeast() {
        SaltStreet x = Checks.made("house a salt 4;house b salt 9;quarrel p of a and b needs 4;quarrel q of a and b needs 2;"
                + "quarrel r of a and b needs 2;quarrel s of a and b needs 2;");
        Checks.good(x, "two, not the first", x.most(), 6);
        x.shovel(0, 1, 1);
        Checks.good(x, "one", x.most(), 2);
        x.strew(0, 3);
        Checks.good(x, "three, not the first", x.most(), 2 + 4 + 8);
        x.shovel(0, 1, 1);
        Checks.good(x, "5: two of the last three", x.most(), 6);
    }

    // "LACK of a set: how many grains more are needed, STEP by STEP .. (SNOW counts as if it were away)"
    private static void lackStepByStep() {
        for (int grains = 0; grains <= 9; grains++) {
            SaltStreet x = Checks.made("house a salt " + grains / 2 + " sugar " + (grains - grains / 2)
                    + ";house b salt 4;house c gone;quarrel p of a and b needs 5;quarrel q of b and a needs 3;"
                    + "quarrel r of a and c needs 1;");
            for (int snow = 0; snow < 2; snow++) {
                Checks.good(x, "nothing for none", x.lack(0), 0);
                Checks.good(x, "lack(1) of " + grains, x.lack(1), Math.max(0, 5 - grains) + 1);
                Checks.good(x, "lack(2) of " + grains, x.lack(2), Math.max(0, 3 - grains));
                Checks.good(x, "lack(3) of " + grains, x.lack(3), Math.max(0, 8 - grains) + 4);
                Checks.good(x, "one never can", x.lack(4), NONE);
                Checks.good(x, "one never can", x.lack(7), NONE);
                Checks.good(x, "lackAt(3, 0) of " + grains, x.lackAt(3, 0), Math.max(0, 8 - grains));
                Checks.good(x, "lackAt(3, 1)", x.lackAt(3, 1), 4);
                Checks.good(x, "lackAt(2, 1)", x.lackAt(2, 1), 0);
                x.snow(99);
            }
        }
        SaltStreet counts = Checks.made("house a salt 2;house b gone;quarrel p of a and b needs 3;gone counts;");
        Checks.good(counts, "GONE COUNTS", counts.lack(1), 1);
        Checks.good(counts, "GONE COUNTS", counts.lackAt(1, 0), 1);
        Checks.refused(counts, "no STEP there", counts.lackAt(1, 1), 7);
        Checks.refused(counts, "a set with others", counts.lack(2), 1);
        SaltStreet none = Checks.made("house a;");
        Checks.good(none, "no QUARRELS", none.lack(0), 0);
        Checks.good(none, "no QUARRELS", none.lackAt(0, 0), 0);
        Checks.refused(none, "no QUARRELS", none.lack(1), 1);
    }

    // "FREED by the end of a QUARREL: which others have PEACE .. that have it not now"
    private static void freedByOne() {
        for (int grains = 0; grains <= 8; grains++) {
            SaltStreet x = Checks.made("house a salt " + grains + ";house b salt 99;quarrel p of a and b needs 4;"
                    + "quarrel q of a and b needs 3;");
            Checks.good(x, "freed(0) of " + grains, x.freed(0), grains >= 3 && grains < 7 ? 2 : 0);
            Checks.good(x, "freed(1) of " + grains, x.freed(1), 0);
        }
        SaltStreet one = Checks.made("house a salt 9;house b salt 9;quarrel p of a and b needs 9;");
        Checks.good(one, "not itself", one.freed(0), 0);
        one.snow(1);
        Checks.good(one, "not itself under SNOW", one.freed(0), 0);
    }

    // "CHAIN of a QUARREL: .. joined to it by STEPS (or HOUSES that are GONE) they share, and so on, itself, too"
    private static void chainsToTheEnd() {
        String row = "house a;house b gone;house c;house d;house e gone;house f;house g;house h;";
        String[] ends = {"g h", "e f", "c d", "a b", "f g", "d e", "b c"};
        StringBuilder s = new StringBuilder(row);
        for (int i = 0; i < ends.length; i++) {
            s.append("quarrel q").append((char) ('a' + i)).append(" of ").append(ends[i].charAt(0)).append(" and ")
                .append(ends[i].charAt(2)).append(" needs 1;");
        }
        SaltStreet x = Checks.made(s.toString());
        for (int q = 0; q < 7; q++) {
            Checks.good(x, "from one end to the other", x.chain(q), 127);
        }
        SaltStreet alone = Checks.made("house a;house b;house c;house d;quarrel p of a and b needs 1;"
                + "quarrel q of c and d needs 1;quarrel r of b and a needs 1;");
        Checks.good(alone, "chain(0)", alone.chain(0), 5);
        Checks.good(alone, "itself alone", alone.chain(1), 2);
        Checks.good(alone, "chain(2)", alone.chain(2), 5);
    }

    // "one CAT behind the other in whatever order, itself, too"
    private static void reachesInWhateverOrder() {
        SaltStreet x = Checks.made("house a;house b;house c;house d;house e;house f;cat n from d to e takes 1;"
                + "cat m from c to d takes 1;cat l from b to c takes 1;cat k from a to b takes 1;");
        int[] want = {31, 30, 28, 24, 16, 32};
        for (int h = 0; h < 6; h++) {
            Checks.good(x, "reaches(" + h + ")", x.reaches(h), want[h]);
        }
        x.snow(99);
        Checks.good(x, "SNOW is no hindrance", x.reaches(0), 31);
        SaltStreet ring = Checks.made("house a;house b;house c;cat k from a to b takes 1;cat l from b to a takes 1;");
        Checks.good(ring, "a ring", ring.reaches(0), 3);
        Checks.good(ring, "a ring", ring.reaches(1), 3);
        Checks.good(ring, "none comes there", ring.reaches(2), 4);
    }

    // "FORECAST: as if so many NIGHTS went by without more RAIN (what RAINED today did), with nothing done"
    private static void forecastsUpTo60() {
        SaltStreet x = Checks.made("house a salt 61 sugar 4;house b;cat k from a to b takes 1;rain washes 0;");
        for (int nights = 0; nights <= 60; nights++) {
            Checks.good(x, "SALT behind " + nights, x.forecast(0, nights, 0), 61 - nights);
            Checks.good(x, "SALT there behind " + nights, x.forecast(1, nights, 0), nights);
        }
        Checks.refused(x, "61", x.forecast(0, 61, 0), 1);
        x.rain();
        Checks.good(x, "SUGAR is WASHED", x.forecast(0, 60, 1), 0);
        Checks.good(x, "it RAINS yet", x.told(10), 1);
        Checks.good(x, "it is DAY 0 yet", x.told(4), 0);
        x.snow(3);
        Checks.good(x, "SNOW now", x.forecast(1, 0, 2), 3);
        Checks.good(x, "SNOW behind 1", x.forecast(0, 1, 2), 0);
        Checks.good(x, "SNOW there behind 3", x.forecast(1, 3, 2), 1);
        Checks.good(x, "SNOW there behind 4", x.forecast(1, 4, 2), 0);
        SaltStreet last = Checks.made("house a salt 99;house b;cat k from a to b takes 1;quarrel p of a and b needs 60;");
        Checks.days(last, "loop 3;loop 99;night;end;end;");
        for (int i = 0; i < 4; i++) {
            last.live(0);
        }
        Checks.good(last, "DAY 999", last.told(4), 999);
        last.sweep(1);
        last.strew(0, 150);
        Checks.good(last, "beyond DAY 999", last.forecast(1, 60, 0), 60);
        Checks.good(last, "beyond DAY 999", last.soonest(0), 60);
        Checks.good(last, "DAY 999 yet", last.told(4), 999);
    }

    // "SOONEST: the fewest such NIGHTS (0 to 60) behind which a QUARREL is OVER"
    private static void soonestUpTo60() {
        int[] needs = {1, 2, 59, 60, 61, 62, 99};
        for (int n : needs) {
            SaltStreet x = Checks.made("house a salt 999;house b;cat k from a to b takes 1;quarrel p of a and b needs " + n + ";");
            maybe(x, "soonest(0) of " + n, x.soonest(0), n <= 60 ? n : NONE);
            x.night();
            maybe(x, "a NIGHT later, of " + n, x.soonest(0), n <= 61 ? n - 1 : NONE);
        }
        SaltStreet over = Checks.made("house a salt 1;house b salt 1;quarrel p of a and b needs 1;");
        Checks.good(over, "PEACE is not OVER yet", over.soonest(0), 1);
        over.night();
        over.sweep(0);
        Checks.good(over, "it is OVER now", over.soonest(0), 0);
        over.rain();
        Checks.good(over, "now it is yet", over.soonest(0), 0);
        over.night();
        Checks.refused(over, "never again", over.soonest(0), 6);
        SaltStreet snow = Checks.made("house a salt 9;house b salt 9;quarrel p of a and b needs 3;");
        snow.snow(6);
        Checks.good(snow, "SNOW melts ahead", snow.soonest(0), 1);
        snow.snow(1);
        Checks.refused(snow, "too few are left", snow.soonest(0), 6);
    }

    // "THAW of a STEP: how many NIGHTS (0 to 60) of a FORECAST till it has no SNOW"
    private static void thawUpTo60() {
        int[] high = {0, 1, 2, 58, 59, 60, 61, 99};
        for (int n : high) {
            SaltStreet x = Checks.made("house a salt 999;house b;cat k from a to b takes 1;");
            x.snow(n);
            // The CAT sleeps in the first NIGHT, and brings one in each behind it.
            int nights = n == 0 ? 0 : n + 1;
            Checks.good(x, "thaw(0) of " + n, x.thaw(0), n == 0 ? 0 : 1);
            maybe(x, "thaw(1) of " + n, x.thaw(1), nights <= 60 ? nights : NONE);
            maybe(x, "thawAll() of " + n, x.thawAll(), nights <= 60 ? nights : NONE);
        }
        SaltStreet first = Checks.made("house a;house b salt 9;cat k from b to a takes 1;");
        first.snow(2);
        Checks.good(first, "the first alone has SNOW", first.thawAll(), 3);
        SaltStreet gone = Checks.made("house a gone;house b gone;");
        gone.snow(99);
        Checks.good(gone, "no STEP, no SNOW", gone.thawAll(), 0);
        Checks.refused(gone, "GONE", gone.thaw(0), 7);
        SaltStreet none = new SaltStreet();
        Checks.good(none, "no HOUSES", none.thawAll(), 0);
        Checks.refused(none, "no such HOUSE", none.thaw(0), 1);
    }

    // "BEST of n grains: .. the most QUARRELS .. that have it not now: of several the first"; "6: nowhere any"
    private static void bestIsTheFirst() {
        SaltStreet x = Checks.made("house z gone;house a salt 3;house b salt 9;house c salt 9;house d salt 3;"
                + "quarrel p of a and b needs 5;quarrel q of d and c needs 5;quarrel r of d and b needs 2;");
        Checks.refused(x, "one is too few", x.best(1), 6);
        Checks.good(x, "two: a and d each bring one", x.best(2), 1);
        Checks.good(x, "three: a is the first yet", x.best(3), 1);
        Checks.good(x, "four: d brings two", x.best(4), 4);
        Checks.good(x, "999", x.best(999), 4);
        x.snow(1);
        Checks.refused(x, "under SNOW nowhere", x.best(999), 6);
        SaltStreet counts = Checks.made("gone counts;house a gone;house b salt 1;quarrel p of a and b needs 2;");
        Checks.good(counts, "GONE has what it NEEDS", counts.best(1), 1);
        counts.strew(1, 1);
        Checks.refused(counts, "it has it now", counts.best(999), 6);
        SaltStreet first = Checks.made("house a;house b;house c salt 9;quarrel p of a and c needs 2;quarrel q of c and b needs 2;");
        Checks.refused(first, "one is too few", first.best(1), 6);
        Checks.good(first, "the first of all", first.best(2), 0);
        first.snow(1);
        first.night();
        Checks.good(first, "c has no SNOW any more", first.step(2, 2), 0);
        Checks.refused(first, "under SNOW of 1 they bring none", first.best(999), 6);
    }

    // "CLOSEST: .. whose LACK, alone, is the least, of several the first"
    private static void closestIsTheFirst() {
        SaltStreet x = Checks.made("house a salt 3;house b salt 3;house c gone;quarrel o of a and c needs 1;"
                + "quarrel p of a and b needs 6;quarrel q of a and b needs 5;quarrel r of b and a needs 5;");
        Checks.good(x, "4 and 4, alone", x.closest(), 2);
        x.strew(0, 4);
        x.strew(1, 4);
        Checks.good(x, "7 and 7: a has one less for p", x.peace(), 2);
        Checks.good(x, "LACK 0 of the first that has not", x.closest(), 2);
        x.snow(1);
        Checks.good(x, "under SNOW none has PEACE, LACK is 0", x.closest(), 1);
        x.sweep(0);
        x.sweep(1);
        Checks.good(x, "the least of all", x.closest(), 2);
        SaltStreet all = Checks.made("house a salt 1;house b salt 1;quarrel p of a and b needs 1;");
        Checks.refused(all, "all have PEACE", all.closest(), 6);
        SaltStreet first = Checks.made("house a;house b;quarrel p of a and b needs 1;quarrel q of b and a needs 1;");
        Checks.good(first, "the first of all", first.closest(), 0);
    }

    // "LEVEL: the fewest grains that must go .. so that no two STEPS have unlike many by more than 1"
    private static void levelByOne() {
        int[][] rows = {{0}, {999}, {0, 0}, {1, 0}, {0, 1}, {2, 0}, {3, 0}, {4, 0}, {1, 1, 0}, {2, 1, 0}, {2, 2, 0}, {3, 0, 0},
            {5, 5, 5, 6}, {5, 5, 5, 7}, {9, 0, 0, 0}, {0, 0, 0, 0, 0, 0, 0, 8}, {0, 0, 0, 0, 0, 0, 0, 15}};
        int[] want = {0, 0, 0, 0, 0, 1, 1, 2, 0, 1, 1, 2, 0, 1, 6, 7, 13};
        for (int i = 0; i < rows.length; i++) {
            StringBuilder s = new StringBuilder();
            for (int h = 0; h < rows[i].length; h++) {
                s.append("house h").append((char) ('a' + h)).append(h % 2 == 0 ? " salt " : " sugar ").append(rows[i][h]).append(';');
            }
            SaltStreet x = Checks.made(s.toString());
            Checks.good(x, "level() of row " + i, x.level(), want[i]);
            x.snow(5);
            Checks.good(x, "level() of row " + i + " under SNOW", x.level(), want[i]);
        }
        SaltStreet gone = Checks.made("house a gone;house b salt 999;house c gone;");
        Checks.good(gone, "one STEP alone", gone.level(), 0);
        SaltStreet none = new SaltStreet();
        Checks.good(none, "none at all", none.level(), 0);
    }

    // "WANTS of a STEP: .. have what they NEED on the other side (GONE ones as they count), and not on this"
    private static void wantsOnThisSide() {
        for (int a = 0; a <= 3; a++) {
            for (int b = 0; b <= 3; b++) {
                SaltStreet x = Checks.made("house a salt " + a + ";house b salt " + b + ";quarrel p of b and a needs 2;");
                Checks.good(x, "wants(0) of " + a + " and " + b, x.wants(0), a < 2 && b >= 2 ? 1 : 0);
                Checks.good(x, "wants(1) of " + a + " and " + b, x.wants(1), b < 2 && a >= 2 ? 1 : 0);
                x.snow(1);
                Checks.good(x, "under SNOW none has any", x.wants(0), 0);
            }
        }
        SaltStreet counts = Checks.made("gone counts;house a salt 1;house b gone;quarrel p of a and b needs 2;");
        Checks.good(counts, "GONE COUNTS", counts.wants(0), 1);
        SaltStreet never = Checks.made("house a salt 1;house b gone;quarrel p of a and b needs 2;");
        Checks.good(never, "it doesn't", never.wants(0), 0);
    }

    // "CLIFF: .. (neither GONE) .."; promise 45: "(0 where there are no such two)"
    private static void cliffsOfNeighbours() {
        String[] rows = {"", "house a salt 9;", "house a salt 9;house b gone;house c;", "house a salt 9;house b salt 9;",
            "house a salt 9;house b salt 8;", "house a;house b salt 999 sugar 999;", "house a gone;house b gone;",
            "house a;house b salt 1;house c gone;house d salt 9;house e salt 2;"};
        int[] want = {0, 0, 0, 0, 1, 1998, 0, 7};
        for (int i = 0; i < rows.length; i++) {
            SaltStreet x = Checks.made(rows[i]);
            Checks.good(x, "cliff() of row " + i, x.cliff(), want[i]);
        }
    }

    // Promise 46: "SUGAR (what 0), SNOW (1), neither grains nor SNOW (2)"; promise 48: "the STEPS beside a HOUSE"
    private static void looksOfSteps() {
        SaltStreet x = Checks.made("house a;house b gone;house c salt 1;house d sugar 1;house e salt 1 sugar 1;");
        int[] want = {2, 0, 1};
        int[] snowed = {2, 4, 0};
        for (int what = 0; what < 3; what++) {
            Checks.good(x, "steps(" + what + ")", x.steps(what), want[what]);
        }
        x.snow(1);
        for (int what = 0; what < 3; what++) {
            Checks.good(x, "steps(" + what + ") under SNOW", x.steps(what), snowed[what]);
        }
        int[] beside = {0, 1, 1, 3, 1};
        for (int h = 0; h < 5; h++) {
            Checks.good(x, "beside(" + h + ")", x.beside(h), beside[h]);
        }
        SaltStreet one = Checks.made("house a salt 9;");
        Checks.good(one, "nobody is beside it", one.beside(0), 0);
        SaltStreet none = new SaltStreet();
        for (int what = 0; what < 3; what++) {
            Checks.good(none, "no STEPS", none.steps(what), 0);
        }
        Checks.refused(none, "no such HOUSE", none.beside(0), 1);
    }

    // "COST of n grains: the least PRICES .. DEAREST of these: the PRICE of the last one"
    private static void costOfAllStocks() {
        SaltStreet x = Checks.made("house a;grocer g stock 2 price 5;grocer h stock 0 price 1;grocer i stock 2 price 3;"
                + "grocer j stock 1 price 5;");
        int[] cost = {0, 3, 6, 11, 16, 21};
        int[] dearest = {0, 3, 3, 5, 5, 5};
        for (int n = 0; n <= 5; n++) {
            Checks.good(x, "cost(" + n + ")", x.cost(n), cost[n]);
            if (n > 0) {
                Checks.good(x, "dearest(" + n + ")", x.dearest(n), dearest[n]);
            }
        }
        Checks.refused(x, "one more", x.cost(6), 6);
        Checks.refused(x, "one more", x.dearest(6), 6);
        SaltStreet most = Checks.made("house a;grocer g stock 999 price 99;grocer h stock 999 price 98;"
                + "grocer i stock 999 price 97;grocer j stock 999 price 1;");
        Checks.good(most, "all four STOCKS", most.cost(3996), 999 * (99 + 98 + 97 + 1));
        Checks.good(most, "all four STOCKS", most.dearest(3996), 99);
        Checks.good(most, "three STOCKS", most.dearest(2997), 98);
        Checks.good(most, "and one", most.dearest(2998), 99);
        Checks.refused(most, "one more", most.cost(3997), 6);
        Checks.refused(most, "one more", most.dearest(3997), 6);
        SaltStreet none = Checks.made("house a;house b salt 1;");
        Checks.good(none, "nothing costs nothing", none.cost(0), 0);
        Checks.refused(none, "no GROCER", none.cost(1), 6);
        Checks.refused(none, "no GROCER", none.dearest(1), 6);
        Checks.good(none, "an empty STEP", none.value(0), 0);
        Checks.refused(none, "no GROCER", none.value(1), 6);
    }

    // "QUIET: .. it is what the STEP should have then, what RAIN WASHES in each, less the SALT there is, at least 0"
    private static void quietAtLeast0() {
        int[] washes = {0, 1, 99};
        for (int w : washes) {
            SaltStreet x = Checks.made("house a salt 10 sugar 999;house b;cat k from b to a takes 9;rain washes " + w + ";");
            x.snow(99);
            for (int nights = 0; nights <= 9; nights++) {
                int[] left = {0, 9, 10, 11, 999};
                for (int n : left) {
                    Checks.good(x, "quiet(0, " + n + ", " + nights + ")", x.quiet(0, n, nights),
                        Math.max(0, n + w * nights - 10));
                }
            }
        }
    }

    private static int who(SaltStreet x, int grains, int... missing) {
        x.tray(0, 1, missing.length);
        for (int i = 0; i < missing.length; i++) {
            x.write(0, i, missing[i]);
        }
        return x.who(0, grains);
    }

    // "Each HOUSE (also a GONE one: its ghost) may have SWEPT at its own STEP and those beside it, at most S grains"
    private static void whoAtTheEndsOfTheRow() {
        SaltStreet one = Checks.made("house a;");
        Checks.good(one, "nothing", who(one, 1, 0), 0);
        Checks.good(one, "one alone", who(one, 5, 5), 1);
        Checks.refused(one, "one too many", who(one, 5, 6), 6);
        Checks.good(one, "999", who(one, 999, 999), 1);
        Checks.refused(one, "1,000", who(one, 999, 1000), 6);
        Checks.refused(one, "9,999", who(one, 999, 9999), 6);
        Checks.refused(one, "10,000", who(one, 999, 10000), 5);
        SaltStreet ghosts = Checks.made("house a gone;house b;house c gone;");
        Checks.good(ghosts, "one ghost", who(ghosts, 5, 0, 5, 0), 1);
        Checks.good(ghosts, "a ghost and b", who(ghosts, 5, 0, 6, 0), 3);
        Checks.good(ghosts, "all three", who(ghosts, 5, 0, 15, 0), 7);
        Checks.refused(ghosts, "one too many", who(ghosts, 5, 0, 16, 0), 6);
        Checks.refused(ghosts, "at the first GONE one", who(ghosts, 5, 1, 0, 0), 5);
        Checks.refused(ghosts, "at the last GONE one", who(ghosts, 5, 0, 0, 1), 5);
        SaltStreet eight = Checks.made("house a;house b;house c;house d;house e;house f;house g;house h;");
        Checks.good(eight, "all eight", who(eight, 9, 9, 9, 9, 9, 9, 9, 9, 9), 255);
        Checks.refused(eight, "one too many", who(eight, 9, 10, 9, 9, 9, 9, 9, 9, 9), 6);
        Checks.good(eight, "2,997 in the middle", who(eight, 999, 0, 0, 0, 2997, 0, 0, 0, 0), 4 + 8 + 16);
        Checks.refused(eight, "2,998 in the middle", who(eight, 999, 0, 0, 0, 2998, 0, 0, 0, 0), 6);
        Checks.good(eight, "1,998 at the end", who(eight, 999, 0, 0, 0, 0, 0, 0, 0, 1998), 192);
        Checks.refused(eight, "1,999 at the end", who(eight, 999, 0, 0, 0, 0, 0, 0, 0, 1999), 6);
        Checks.refused(eight, "seven numbers", who(eight, 9, 0, 0, 0, 0, 0, 0, 0), 3);
    }

    // "WHO: the fewest HOUSES that explain all that is missing; of several sets the least as a number"
    private static void whoIsTheLeast() {
        SaltStreet x = Checks.made("house a;house b;house c;house d;house e;");
        Checks.good(x, "its neighbour ahead", who(x, 9, 0, 1, 0, 0, 0), 1);
        Checks.good(x, "one for three", who(x, 9, 3, 3, 3, 0, 0), 2);
        Checks.good(x, "two, not one more", who(x, 9, 3, 3, 4, 0, 0), 3);
        Checks.good(x, "two far ones", who(x, 9, 1, 0, 0, 1, 0), 1 + 4);
        Checks.good(x, "the two at the ends", who(x, 9, 1, 0, 0, 0, 1), 1 + 8);
    }

    // "k grains (1 to 4) are tasted, none twice: ODDS that one at least is SUGAR"; "0 is 0 by 1"
    private static void foundByAll() {
        SaltStreet x = Checks.made("house a salt 3 sugar 1;house b sugar 1;house c salt 4;house d salt 2 sugar 2;house e;");
        int[][] rows = {{0, 1, 1, 4}, {0, 2, 1, 2}, {0, 3, 3, 4}, {0, 4, 1, 1}, {1, 1, 1, 1}, {2, 1, 0, 1}, {2, 4, 0, 1},
            {3, 1, 1, 2}, {3, 2, 5, 6}, {3, 3, 1, 1}, {3, 4, 1, 1}};
        for (int[] row : rows) {
            Checks.good(x, "found(" + row[0] + ", " + row[1] + ")", x.found(row[0], row[1]));
            Checks.fraction(x, "found(" + row[0] + ", " + row[1] + ")", row[2], row[3]);
        }
        Checks.refused(x, "two of one", x.found(1, 2), 7);
        Checks.refused(x, "one of none", x.found(4, 1), 7);
        Checks.fraction(x, "the latest yet", 1, 1);
        x.snow(99);
        Checks.good(x, "SNOW is no hindrance", x.found(0, 1));
        Checks.fraction(x, "SNOW is no hindrance", 1, 4);
        SaltStreet full = Checks.made("house a salt 0 sugar 999;");
        for (int i = 0; i < 9; i++) {
            full.strew(0, 999);
        }
        full.strew(0, 9);
        Checks.good(full, "9,999, four tasted", full.found(0, 4));
        java.math.BigInteger all = java.math.BigInteger.ONE;
        java.math.BigInteger none = java.math.BigInteger.ONE;
        for (int i = 0; i < 4; i++) {
            all = all.multiply(java.math.BigInteger.valueOf(9999 - i));
            none = none.multiply(java.math.BigInteger.valueOf(9000 - i));
        }
        java.math.BigInteger top = all.subtract(none);
        java.math.BigInteger common = top.gcd(all);
        Checks.fraction(full, "9,999, four tasted", top.divide(common).longValueExact(), all.divide(common).longValueExact());
        Checks.due("the bottom is above 0", full.bottom() > 0, true);
    }

    // Promises 37, 38: "of several the first (6: ..)"
    private static void longestAndFullestAreTheFirst() {
        SaltStreet x = Checks.made("house z gone;house a salt 2;house b sugar 2;house c salt 1 sugar 1;"
                + "quarrel p of a and b needs 2;quarrel q of b and c needs 9;quarrel r of c and a needs 9;");
        Checks.good(x, "all alike", x.longest(), 0);
        Checks.good(x, "all alike", x.fullest(), 1);
        x.night();
        Checks.good(x, "the first is OVER", x.longest(), 1);
        x.strew(3, 1);
        Checks.good(x, "one more", x.fullest(), 3);
        x.snow(9);
        Checks.good(x, "under SNOW, too", x.fullest(), 3);
        SaltStreet gone = Checks.made("house z gone;");
        Checks.refused(gone, "no STEP", gone.fullest(), 6);
        Checks.refused(gone, "no QUARREL", gone.longest(), 6);
        SaltStreet first = Checks.made("house a salt 1;house b;house c salt 1;");
        Checks.good(first, "the first of all", first.fullest(), 0);
        SaltStreet empty = Checks.made("house z gone;house a;house b;");
        Checks.good(empty, "all are empty", empty.fullest(), 1);
    }

    // "HOPELESS are QUARRELS that never can have PEACE"; promise 49: "whose HOUSES are both GONE"
    private static void hopelessAndGhosts() {
        String row = "house a gone;house b;house c gone;quarrel p of a and b needs 99;quarrel q of b and c needs 1;"
                + "quarrel r of c and a needs 1;house d;quarrel s of b and d needs 99;";
        SaltStreet x = Checks.made(row);
        Checks.good(x, "HOPELESS", x.hopeless(), 7);
        Checks.good(x, "ghosts()", x.ghosts(), 4);
        SaltStreet y = Checks.made(row + "gone counts;");
        Checks.good(y, "none is HOPELESS", y.hopeless(), 0);
        Checks.good(y, "ghosts()", y.ghosts(), 4);
        SaltStreet all = Checks.made("house a gone;house b gone;quarrel p of a and b needs 1;quarrel q of b and a needs 1;");
        Checks.good(all, "all are", all.ghosts(), 3);
        SaltStreet none = new SaltStreet();
        Checks.good(none, "no QUARRELS", none.hopeless(), 0);
        Checks.good(none, "no QUARRELS", none.ghosts(), 0);
    }
}
