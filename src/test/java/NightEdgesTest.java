/** Part ==== 2, sentence by sentence: WHOSE, PEACE, TRUCE, RAIN, NIGHT, SNOW and what is done, at their limits. */
public final class NightEdgesTest {
    public static void main(String[] args) {
        justWhatItNeeds();
        whatIsLeftForTheNext();
        eightQuarrelsOnOneStep();
        aStepWithSnow();
        aGrainAtLeast();
        goneCounts();
        rainWashesOrThereAre();
        sugarGoesFirst();
        rainOnAnEmptyStreet();
        aCatTakesOrAllThereAre();
        catsByNumbers();
        aCatUnderSnow();
        catsMayBringMore();
        saltMeltsSnow();
        overAndBegunAgain();
        rainIsOver();
        lastDay();
        snowIs99AtMost();
        sweepOfAnEmptyStep();
        shovelSaltFirst();
        buyBySixteenths();
        thePurseBelow0();
        theSumHolds();
        Checks.finish();
    }

    private static SaltStreet two(int a, int b, int needs) {
        return Checks.made("house a salt " + a + ";house b salt " + b + ";quarrel p of a and b needs " + needs + ";");
    }

    // "PEACE has a QUARREL that has what it NEEDS on both sides"
    private static void justWhatItNeeds() {
        int[] needs = {1, 2, 98, 99};
        for (int n : needs) {
            for (int a = n - 1; a <= n + 1; a++) {
                for (int b = n - 1; b <= n + 1; b++) {
                    SaltStreet x = two(a, b, n);
                    Checks.good(x, "share(0, 0)", x.share(0, 0), Math.min(a, n));
                    Checks.good(x, "share(0, 1)", x.share(0, 1), Math.min(b, n));
                    Checks.good(x, "nobodys(0)", x.nobodys(0), Math.max(0, a - n));
                    Checks.good(x, a + " and " + b + " of " + n, x.peace(), a >= n && b >= n ? 1 : 0);
                    x.night();
                    Checks.good(x, "OVER", x.over(), a >= n && b >= n ? 1 : 0);
                    Checks.good(x, "WAR", x.quarrel(0, 4), a >= n && b >= n ? 0 : 1);
                }
            }
        }
    }

    // "all grains go to its QUARRELS by their numbers, to each as many as it NEEDS, or there are"
    private static void whatIsLeftForTheNext() {
        for (int grains = 0; grains <= 9; grains++) {
            SaltStreet x = Checks.made("house a salt " + grains + ";house b salt 99;quarrel p of b and a needs 3;"
                    + "quarrel q of a and b needs 4;");
            int first = Math.min(3, grains);
            int second = Math.min(4, grains - first);
            Checks.good(x, "the first", x.share(0, 1), first);
            Checks.good(x, "the second", x.share(1, 0), second);
            Checks.good(x, "nobody's", x.nobodys(0), grains - first - second);
            for (int k = 0; k < 10; k++) {
                int whose = k < first ? 0 : k < first + second ? 1 : -1;
                if (whose < 0) {
                    Checks.refused(x, "whose(0, " + k + ") of " + grains, x.whose(0, k), 6);
                } else {
                    Checks.good(x, "whose(0, " + k + ") of " + grains, x.whose(0, k), whose);
                }
            }
            Checks.good(x, "peace() of " + grains, x.peace(), (grains >= 3 ? 1 : 0) + (grains >= 7 ? 2 : 0));
            Checks.good(x, "truce() of " + grains, x.truce(), (grains >= 1 ? 1 : 0) + (grains >= 4 ? 2 : 0));
        }
    }

    private static String eight(int a, int b) {
        StringBuilder s = new StringBuilder("house a salt " + a + ";house b salt " + b + ";");
        for (char c = 'p'; c <= 'w'; c++) {
            s.append("quarrel ").append(c).append(" of a and b needs 99;");
        }
        return s.toString();
    }

    private static void eightQuarrelsOnOneStep() {
        SaltStreet full = Checks.made(eight(792, 999));
        Checks.good(full, "792 for eight of 99", full.peace(), 255);
        Checks.good(full, "none is nobody's", full.nobodys(0), 0);
        Checks.good(full, "the last grain", full.whose(0, 791), 7);
        Checks.refused(full, "there is none such", full.whose(0, 792), 6);
        Checks.good(full, "the last there", full.whose(1, 791), 7);
        Checks.refused(full, "nobody's there", full.whose(1, 792), 6);
        Checks.good(full, "nobody's there", full.nobodys(1), 207);
        SaltStreet less = Checks.made(eight(791, 999));
        Checks.good(less, "one less", less.peace(), 127);
        Checks.good(less, "but TRUCE", less.truce(), 255);
        SaltStreet one = Checks.made(eight(693, 999));
        Checks.good(one, "none for the last", one.truce(), 127);
        SaltStreet none = Checks.made(eight(0, 999));
        Checks.good(none, "none for any", none.truce(), 0);
    }

    // "of a STEP with SNOW none"
    private static void aStepWithSnow() {
        SaltStreet x = two(9, 9, 3);
        x.snow(0);
        Checks.good(x, "SNOW of 0 hides none", x.share(0, 0), 3);
        Checks.good(x, "SNOW of 0 hides none", x.peace(), 1);
        x.snow(1);
        Checks.good(x, "SNOW of 1 hides all", x.share(0, 0), 0);
        Checks.refused(x, "whose(0, 0)", x.whose(0, 0), 6);
        Checks.good(x, "all are nobody's", x.nobodys(0), 9);
        Checks.good(x, "no PEACE", x.peace(), 0);
        Checks.good(x, "no TRUCE", x.truce(), 0);
        SaltStreet y = Checks.made("house a salt 9;house b sugar 9;quarrel p of a and b needs 3;");
        y.snow(2);
        y.night();
        Checks.good(y, "SNOW on one side alone", y.share(0, 0), 3);
        Checks.good(y, "SNOW on one side alone", y.share(0, 1), 0);
        Checks.good(y, "no PEACE", y.peace(), 0);
        Checks.good(y, "no TRUCE", y.truce(), 0);
    }

    // "TRUCE one that has a grain at least on both (or as much as it NEEDS)"
    private static void aGrainAtLeast() {
        for (int a = 0; a <= 3; a++) {
            for (int b = 0; b <= 3; b++) {
                SaltStreet x = two(a, b, 2);
                Checks.good(x, "truce() of " + a + " and " + b, x.truce(), a > 0 && b > 0 ? 1 : 0);
                Checks.good(x, "peace() of " + a + " and " + b, x.peace(), a > 1 && b > 1 ? 1 : 0);
            }
        }
        SaltStreet sweet = Checks.made("house a sugar 1;house b salt 1;quarrel p of a and b needs 2;");
        Checks.good(sweet, "SUGAR looks alike", sweet.truce(), 1);
    }

    // "GONE COUNTS: at a HOUSE that is GONE a QUARREL has what it NEEDS; else never"
    private static void goneCounts() {
        String row = "house a salt 2;house b gone;quarrel p of a and b needs 3;quarrel q of b and a needs 1;";
        for (int round = 0; round < 2; round++) {
            boolean counts = round == 1;
            SaltStreet x = Checks.made(row + (counts ? "gone counts;" : ""));
            Checks.good(x, "TRUCE", x.truce(), counts ? 1 : 0);
            Checks.good(x, "PEACE of 2", x.peace(), 0);
            x.strew(0, 1);
            Checks.good(x, "PEACE of 3", x.peace(), counts ? 1 : 0);
            x.strew(0, 1);
            Checks.good(x, "PEACE of 4", x.peace(), counts ? 3 : 0);
            Checks.good(x, "HOPELESS", x.hopeless(), counts ? 0 : 3);
            Checks.refused(x, "share at a GONE one", x.share(0, 1), 7);
            x.snow(1);
            Checks.good(x, "SNOW hides the other side", x.peace(), 0);
        }
    }

    // "RAIN: .. then as many grains of SALT as RAIN WASHES, or there are"
    private static void rainWashesOrThereAre() {
        int[] washes = {0, 1, 5, 99};
        for (int w : washes) {
            for (int salt = Math.max(0, w - 1); salt <= w + 1; salt++) {
                SaltStreet x = Checks.made("house a salt " + salt + ";rain washes " + w + ";");
                int away = Math.min(w, salt);
                Checks.good(x, "rain() of " + w + " on " + salt, x.rain(), away);
                Checks.good(x, "SALT", x.step(0, 0), salt - away);
                Checks.good(x, "WASHED", x.told(6), away);
                Checks.good(x, "it RAINS today", x.told(10), 1);
                Checks.good(x, "again", x.rain(), Math.min(w, salt - away));
                Checks.good(x, "WASHED", x.told(6), Math.min(salt, 2 * w));
            }
        }
    }

    // "from each STEP first SUGAR goes, all of it"
    private static void sugarGoesFirst() {
        SaltStreet x = Checks.made("house a salt 6 sugar 999;house b sugar 1;house c gone;house d salt 999;");
        x.snow(99);
        Checks.good(x, "rain(), under SNOW, too", x.rain(), 5 + 999 + 1 + 5);
        int[][] want = {{1, 0, 99}, {0, 0, 99}, {}, {994, 0, 99}};
        for (int h = 0; h < 4; h++) {
            for (int what = 0; what < want[h].length; what++) {
                Checks.good(x, "step(" + h + ", " + what + ")", x.step(h, what), want[h][what]);
            }
        }
        Checks.good(x, "again", x.rain(), 1 + 5);
        Checks.good(x, "again", x.rain(), 5);
    }

    private static void rainOnAnEmptyStreet() {
        SaltStreet x = new SaltStreet();
        Checks.good(x, "rain()", x.rain(), 0);
        Checks.good(x, "it RAINS today", x.told(10), 1);
        Checks.good(x, "snow(99)", x.snow(99));
        Checks.good(x, "night()", x.night(), 1);
        Checks.good(x, "RAIN is over", x.told(10), 0);
        SaltStreet gone = Checks.made("house a gone;");
        gone.snow(99);
        Checks.good(gone, "no STEP, no SNOW", gone.steps(1), 0);
        Checks.good(gone, "rain()", gone.rain(), 0);
        Checks.good(gone, "night()", gone.night(), 1);
    }

    // "a CAT takes from its first STEP so many grains, or all there are (SALT first), to its second one"
    private static void aCatTakesOrAllThereAre() {
        int[][] rows = {{0, 0}, {1, 0}, {0, 1}, {4, 0}, {5, 0}, {6, 0}, {0, 4}, {0, 5}, {0, 6}, {3, 1}, {3, 2}, {3, 3}, {5, 1}};
        for (int[] row : rows) {
            SaltStreet x = Checks.made("house a salt " + row[0] + " sugar " + row[1]
                    + ";house b salt 10 sugar 20;cat k from a to b takes 5;");
            Checks.good(x, "night()", x.night(), 1);
            int salt = Math.min(5, row[0]);
            int sugar = Math.min(5 - salt, row[1]);
            int[] want = {row[0] - salt, row[1] - sugar, 10 + salt, 20 + sugar};
            for (int i = 0; i < 4; i++) {
                Checks.good(x, "of " + row[0] + " and " + row[1], x.step(i / 2, i % 2), want[i]);
            }
        }
        int[] takes = {1, 99};
        for (int n : takes) {
            SaltStreet x = Checks.made("house a salt 100;house b;cat k from a to b takes " + n + ";");
            x.night();
            Checks.good(x, "takes " + n, x.step(1, 0), n);
            x.night();
            Checks.good(x, "takes " + n, x.step(1, 0), Math.min(100, 2 * n));
        }
    }

    // "CATS by numbers"
    private static void catsByNumbers() {
        SaltStreet on = Checks.made("house a salt 5;house b;house c;cat k from a to b takes 5;cat l from b to c takes 5;");
        on.night();
        Checks.good(on, "on in one NIGHT", on.step(2, 0), 5);
        SaltStreet off = Checks.made("house a salt 5;house b;house c;cat l from b to c takes 5;cat k from a to b takes 5;");
        off.night();
        Checks.good(off, "the other way round", off.step(2, 0), 0);
        Checks.good(off, "the other way round", off.step(1, 0), 5);
        SaltStreet last = Checks.made("house a salt 3;house b;house c;cat k from a to b takes 2;cat l from a to c takes 2;");
        last.night();
        Checks.good(last, "what is left for the second", last.step(2, 0), 1);
        SaltStreet ring = Checks.made("house a salt 3;house b;cat k from a to b takes 2;cat l from b to a takes 1;"
                + "cat m from a to b takes 99;cat n from b to a takes 99;");
        ring.night();
        Checks.good(ring, "four CATS, there and back", ring.step(0, 0), 3);
    }

    // "under SNOW it takes none"
    private static void aCatUnderSnow() {
        SaltStreet x = Checks.made("house a sugar 9;house b sugar 1;cat k from a to b takes 5;");
        x.snow(1);
        x.night();
        Checks.good(x, "under SNOW of 1", x.step(0, 1), 9);
        SaltStreet y = Checks.made("house a salt 4;house b;cat k from a to b takes 3;");
        y.snow(3);
        y.night();
        Checks.good(y, "SNOW was there when CATS came", y.step(0, 0), 1);
        Checks.good(y, "SNOW", y.step(0, 2), 0);
        Checks.good(y, "SNOW of the other", y.step(1, 2), 3);
        y.strew(0, 8);
        y.night();
        Checks.good(y, "onto SNOW it brings", y.step(0, 0), 6);
        Checks.good(y, "that melts it", y.step(1, 2), 0);
        Checks.good(y, "that melts it", y.step(1, 0), 0);
    }

    private static SaltStreet brimful(String tail) {
        SaltStreet x = Checks.made("house a salt 999 sugar 999;house b salt 99;" + tail);
        for (int i = 0; i < 9; i++) {
            x.strew(0, i < 8 ? 999 : 9);
        }
        return x;
    }

    // "To more than 9,999 grains in all on a STEP nothing is strewn or bought (CATS may bring more)"
    private static void catsMayBringMore() {
        SaltStreet x = brimful("cat k from b to a takes 99;quarrel p of a and b needs 1;");
        Checks.good(x, "9,999", x.nobodys(0), 9998);
        Checks.refused(x, "no more is strewn", x.strew(0, 1), 4);
        x.night();
        Checks.good(x, "99 more", x.nobodys(0), 10097);
        Checks.refused(x, "nor now", x.strew(0, 1), 4);
        Checks.refused(x, "nor now", x.strew(0, 999), 4);
        Checks.good(x, "SWEPT", x.sweep(0), 10098);
        Checks.good(x, "then again", x.strew(0, 1), 1);
    }

    // "on each STEP as many grains of SALT as SNOW is high, or there are, go; SNOW is so much less; they are MELTED"
    private static void saltMeltsSnow() {
        int[] high = {0, 1, 7, 98, 99};
        for (int snow : high) {
            for (int salt = Math.max(0, snow - 1); salt <= snow + 1; salt++) {
                SaltStreet x = Checks.made("house a salt " + salt + " sugar 50;house b sugar 50;");
                x.snow(snow);
                x.night();
                int gone = Math.min(salt, snow);
                Checks.good(x, "SALT of " + salt + " under " + snow, x.step(0, 0), salt - gone);
                Checks.good(x, "SNOW of " + snow + " on " + salt, x.step(0, 2), snow - gone);
                Checks.good(x, "SUGAR stays", x.step(0, 1), 50);
                Checks.good(x, "SUGAR melts none", x.step(1, 2), snow);
                Checks.good(x, "MELTED", x.told(8), gone);
            }
        }
    }

    // "one that has PEACE is OVER; one that has not, if it RAINED today, is not OVER any more"
    private static void overAndBegunAgain() {
        SaltStreet x = Checks.made("house a salt 9;house b salt 9;quarrel p of a and b needs 3;rain washes 1;");
        Checks.good(x, "not by day", x.over(), 0);
        x.rain();
        x.night();
        Checks.good(x, "PEACE, though it RAINED", x.over(), 1);
        x.shovel(0, 1, 6);
        x.night();
        Checks.good(x, "no PEACE, no RAIN: it stays", x.over(), 1);
        x.rain();
        Checks.good(x, "no PEACE, RAIN: by day it stays", x.over(), 1);
        x.strew(0, 3);
        x.night();
        Checks.good(x, "PEACE again ahead of NIGHT", x.over(), 1);
        x.sweep(0);
        x.night();
        Checks.good(x, "RAIN of yesterday", x.over(), 1);
        x.rain();
        x.night();
        Checks.good(x, "RAIN starts it again", x.over(), 0);
        Checks.good(x, "WAR", x.quarrel(0, 4), 1);
        x.night();
        Checks.good(x, "WAR", x.quarrel(0, 4), 2);
    }

    // "it is the next DAY (999 at most), RAIN is over"
    private static void rainIsOver() {
        SaltStreet x = two(1, 1, 1);
        Checks.good(x, "told(10)", x.told(10), 0);
        x.rain();
        x.rain();
        Checks.good(x, "told(10)", x.told(10), 1);
        Checks.good(x, "night()", x.night(), 1);
        Checks.good(x, "told(10)", x.told(10), 0);
        Checks.good(x, "the DAY", x.told(4), 1);
    }

    private static void lastDay() {
        SaltStreet x = two(1, 1, 2);
        Checks.days(x, "loop 3;loop 99;night;end;end;");
        for (int i = 0; i < 3; i++) {
            x.live(0);
        }
        Checks.good(x, "DAY 888", x.told(4), 3 * 296);
        for (int day = 889; day <= 999; day++) {
            Checks.good(x, "night()", x.night(), day);
        }
        x.rain();
        x.snow(1);
        Checks.refused(x, "night() at DAY 999", x.night(), 4);
        Checks.good(x, "it RAINS yet", x.told(10), 1);
        Checks.good(x, "SNOW lies yet", x.step(0, 2), 1);
        Checks.good(x, "WAR", x.quarrel(0, 4), 999);
        Checks.good(x, "the DAY", x.told(4), 999);
    }

    // "SNOW n (0 to 99): each STEP has n more, 99 at most"
    private static void snowIs99AtMost() {
        for (int first = 0; first <= 99; first += 33) {
            for (int more = 0; more <= 99; more++) {
                SaltStreet x = Checks.made("house a;house b gone;house c;");
                Checks.good(x, "snow(" + first + ")", x.snow(first));
                Checks.good(x, "snow(" + more + ")", x.snow(more));
                Checks.good(x, "SNOW", x.step(0, 2), Math.min(99, first + more));
                Checks.good(x, "SNOW of the last", x.step(2, 2), Math.min(99, first + more));
            }
        }
    }

    // "SWEEP of a STEP: all its grains are SWEPT"
    private static void sweepOfAnEmptyStep() {
        SaltStreet x = Checks.made("house a salt 999 sugar 999;house b;");
        Checks.good(x, "an empty one", x.sweep(1), 0);
        Checks.good(x, "SWEPT", x.told(7), 0);
        Checks.good(x, "a full one", x.sweep(0), 1998);
        Checks.good(x, "and again", x.sweep(0), 0);
        Checks.good(x, "SWEPT", x.told(7), 1998);
    }

    // "SHOVEL: grains of one STEP come onto another one, SALT first"
    private static void shovelSaltFirst() {
        for (int grains = 1; grains <= 8; grains++) {
            SaltStreet x = Checks.made("house a salt 3 sugar 4;house b;");
            if (grains > 7) {
                Checks.refused(x, "it has not so many", x.shovel(0, 1, grains), 6);
            } else {
                Checks.good(x, "shovel of " + grains, x.shovel(0, 1, grains), Math.min(3, grains));
                Checks.good(x, "SUGAR there", x.step(1, 1), Math.max(0, grains - 3));
                Checks.good(x, "SALT here", x.step(0, 0), Math.max(0, 3 - grains));
                Checks.good(x, "SUGAR here", x.step(0, 1), Math.min(4, 7 - grains));
            }
        }
        SaltStreet y = Checks.made("house a salt 999 sugar 999;house b salt 1;");
        y.snow(99);
        Checks.good(y, "999, under SNOW, too", y.shovel(0, 1, 999), 999);
        Checks.good(y, "SUGAR alone", y.shovel(0, 1, 999), 0);
        Checks.refused(y, "none is left", y.shovel(0, 1, 1), 6);
        Checks.good(y, "BOUGHT none", y.told(5), 0);
    }

    // "BUY of n grains (1 to 999) .. SUGAR among them: n by its sixteenths, by 16, rounded down"
    private static void buyBySixteenths() {
        int[] grains = {1, 2, 3, 7, 8, 15, 16, 17, 31, 32, 33, 998, 999};
        for (int sweet = 0; sweet <= 16; sweet++) {
            for (int n : grains) {
                SaltStreet x = Checks.made("house a;grocer g stock 999 price 99 sweet " + sweet + ";");
                int sugar = (int) Math.floor(n * (sweet / 16.0));
                Checks.good(x, n + " by " + sweet, x.buy(0, n, 0), sugar);
                Checks.good(x, "SUGAR", x.step(0, 1), sugar);
                Checks.good(x, "SALT", x.step(0, 0), n - sugar);
                Checks.good(x, "STOCK", x.grocer(0, 0), 999 - n);
                Checks.good(x, "BOUGHT", x.told(5), n);
                Checks.good(x, "purse()", x.purse(), -99 * n);
                if (n < 999) {
                    Checks.refused(x, "one more than is left", x.buy(0, 1000 - n, 0), 6);
                    Checks.good(x, "all that is left", x.buy(0, 999 - n, 0), (int) Math.floor((999 - n) * (sweet / 16.0)));
                }
                Checks.refused(x, "nothing is left", x.buy(0, 1, 0), 6);
            }
        }
    }

    // "the PURSE is less by n PRICES (below 0, too)"
    private static void thePurseBelow0() {
        SaltStreet x = Checks.made("house a;house b;house c;house d;grocer g stock 999 price 99;grocer h stock 999 price 99;"
                + "grocer i stock 999 price 99;grocer j stock 999 price 99;");
        Checks.good(x, "at first", x.purse(), 0);
        for (int g = 0; g < 4; g++) {
            x.buy(g, 999, g);
        }
        Checks.good(x, "all there is, at the dearest", x.purse(), -4 * 999 * 99);
        Checks.good(x, "strewn for nothing", x.strew(0, 999), 1998);
        Checks.good(x, "purse()", x.purse(), -4 * 999 * 99);
    }

    // "what was told at first and BOUGHT is always what lies there, is WASHED, SWEPT, MELTED"
    private static void theSumHolds() {
        SaltStreet x = Checks.made("rain washes 99;house a salt 999 sugar 999;house b salt 1;house c gone;"
                + "grocer g stock 999 price 1 sweet 7;cat k from a to b takes 99;");
        int first = 999 + 999 + 1;
        for (int i = 0; i < 12; i++) {
            switch (i % 6) {
                case 0 -> x.buy(0, 333, 1);
                case 1 -> x.snow(99);
                case 2 -> x.strew(0, 999);
                case 3 -> x.rain();
                case 4 -> x.shovel(0, 1, 500);
                default -> x.sweep(1);
            }
            x.night();
            int lies = x.step(0, 0) + x.step(0, 1) + x.step(1, 0) + x.step(1, 1);
            Checks.due("the sum", lies + x.told(6) + x.told(7) + x.told(8), first + x.told(5));
        }
    }
}
