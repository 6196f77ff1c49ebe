/** Promises 11 and 59 to 61: DAYS as a text, lived through, by draws. */
public final class DaysTest {
    private static final String ROW = "rain washes 2;house a salt 5;house b salt 5;house c gone;house d;"
            + "quarrel p of a and b needs 3;quarrel q of a and c needs 1;cat t from a to d takes 1;"
            + "grocer g stock 20 price 2 sweet 8;";

    public static void main(String[] args) {
        daysAreTaken();
        tokenFaults();
        nameAndNumberFaults();
        goneFaults();
        countFaults();
        live();
        tests();
        loops();
        stopAndCut();
        missed();
        draws();
        livedCounts();
        livedRefused();
        odds();
        Checks.finish();
    }

    private static void daysAreTaken() {
        SaltStreet x = Checks.made(ROW);
        Checks.good(x, "days of none", x.days(0), 0);
        Checks.good(x, "live through none", x.live(0), 0);
        Checks.good(x, "days", Checks.days(x, "strew a 1;buy g 2 to b;sweep d;rain 16;snow 0;night;"
                + "when over p;night;end;when truce q;end;when lies d<3;end;loop 99;stop;end;"), 12);
        Checks.due("fault(0)", x.fault(0), 0);
        Checks.due("the tape is empty", x.feed(0, 0, 0, 0, 0), 20);
        StringBuilder s = new StringBuilder("night;");
        while (s.length() < 300) {
            s.append(' ');
        }
        SaltStreet y = Checks.made(ROW);
        Checks.good(y, "a text of 300", Checks.days(y, s.toString()), 1);
        s.append("     ");
        Checks.refused(y, "a text of 305", Checks.days(y, s.toString()), 1);
        Checks.good(y, "the tape is as it was", y.days(300), 1);
        Checks.refused(y, "the tape is empty", y.days(1), 1);
        Checks.refused(y, "days(-1)", y.days(-1), 1);
    }

    private static void tokenFaults() {
        Checks.faultyDays(ROW, "night!", 1, 5);
        Checks.faultyDays(ROW, "snow 00000;", 1, 5);
        Checks.faultyDays(ROW, "night", 2, 5);
        Checks.faultyDays(ROW, "night;;", 2, 6);
        Checks.faultyDays(ROW, "a;", 2, 0);
        Checks.faultyDays(ROW, "house a;", 2, 0);
        Checks.faultyDays(ROW, "end;", 2, 0);
        Checks.faultyDays(ROW, "loop 2;end;end;", 2, 11);
        Checks.faultyDays(ROW, "loop 2;night;  ", 2, 15);
        Checks.faultyDays(ROW, "loop 2;end", 2, 10);
        Checks.faultyDays(ROW, "loop 2;end night;", 2, 11);
        Checks.faultyDays(ROW, "when night;", 2, 5);
        Checks.faultyDays(ROW, "when lies a 3;", 2, 12);
        Checks.faultyDays(ROW, "when lies a;", 2, 11);
        Checks.faultyDays(ROW, "when lies a = b;", 2, 14);
        Checks.faultyDays(ROW, "when over 3;", 2, 10);
        Checks.faultyDays(ROW, "strew 3 a;", 2, 6);
        Checks.faultyDays(ROW, "strew a;", 2, 7);
        Checks.faultyDays(ROW, "buy g 3 a;", 2, 8);
        Checks.faultyDays(ROW, "buy g 3 to ;", 2, 11);
        Checks.faultyDays(ROW, "buy abcdefghi", 2, 4);
        Checks.faultyDays(ROW, "sweep;", 2, 5);
        Checks.faultyDays(ROW, "rain washes 3;", 2, 5);
        Checks.faultyDays(ROW, "snow;", 2, 4);
        Checks.faultyDays(ROW, "stop 1;", 2, 5);
        Checks.faultyDays(ROW, "over p;", 2, 0);
        Checks.faultyDays(ROW, "lies a < 1;", 2, 0);
        Checks.faultyDays(ROW, "to;", 2, 0);
        Checks.faultyDays(ROW, "counts;", 2, 0);
    }

    private static void nameAndNumberFaults() {
        Checks.faultyDays(ROW, "strew x 1;", 3, 6);
        Checks.faultyDays(ROW, "strew g 1;", 3, 6);
        Checks.faultyDays(ROW, "buy a 1 to b;", 3, 4);
        Checks.faultyDays(ROW, "buy g 1 to p;", 3, 11);
        Checks.faultyDays(ROW, "sweep t;", 3, 6);
        Checks.faultyDays(ROW, "when over a;", 3, 10);
        Checks.faultyDays(ROW, "when truce g;", 3, 11);
        Checks.faultyDays(ROW, "when lies p", 3, 10);
        Checks.faultyDays(ROW, "strew a 0;", 4, 8);
        Checks.faultyDays(ROW, "strew a 1000;", 4, 8);
        Checks.faultyDays(ROW, "buy g 0 to c;", 4, 6);
        Checks.faultyDays(ROW, "buy g 1000 to c;", 4, 6);
        Checks.faultyDays(ROW, "rain 17;", 4, 5);
        Checks.faultyDays(ROW, "snow 100;", 4, 5);
        Checks.faultyDays(ROW, "loop 0;", 4, 5);
        Checks.faultyDays(ROW, "loop 100;", 4, 5);
        namesOfNow();
        SaltStreet x = Checks.made(ROW);
        Checks.good(x, "the edges", Checks.days(x, "strew a 1;strew a 999;buy g 1 to a;buy g 999 to a;rain 0;rain 16;"
                + "snow 0;snow 99;loop 1;end;loop 99;end;when lies a=0;end;when lies a=9999;end;"), 12);
    }

    /** NAMES of a STREET that was there ahead are not of this one; 24 NAMES are looked through to the end. */
    private static void namesOfNow() {
        SaltStreet old = Checks.made("house zz;house yy;");
        Checks.street(old, "house yy;");
        Checks.refused(old, "a NAME of old", Checks.days(old, "sweep zz;"), 9);
        Checks.due("fault(0)", old.fault(0), 3);
        Checks.street(old, "");
        Checks.refused(old, "a NAME of old", Checks.days(old, "sweep yy;"), 9);
        Checks.due("fault(0)", old.fault(0), 3);
        StringBuilder all = new StringBuilder();
        for (char c = 'a'; c <= 'h'; c++) {
            all.append("house ").append(c).append(';');
        }
        for (char c = 'i'; c <= 'p'; c++) {
            all.append("quarrel ").append(c).append(" of a and b needs 1;");
        }
        for (char c = 'q'; c <= 't'; c++) {
            all.append("cat ").append(c).append(" from a to b takes 1;");
        }
        for (char c = 'u'; c <= 'x'; c++) {
            all.append("grocer ").append(c).append(" stock 1 price 1;");
        }
        Checks.faultyDays(all.toString(), "sweep y;", 3, 6);
        SaltStreet full = Checks.made(all.toString());
        Checks.good(full, "the last of each", Checks.days(full, "sweep h;buy x 1 to h;when over p;end;"), 3);
    }

    private static void goneFaults() {
        Checks.faultyDays(ROW, "strew c 0;", 5, 6);
        Checks.faultyDays(ROW, "buy g 1 to c", 5, 11);
        Checks.faultyDays(ROW, "sweep c", 5, 6);
        Checks.faultyDays(ROW, "when lies c", 5, 10);
        SaltStreet x = Checks.made(ROW);
        Checks.good(x, "a QUARREL with a GONE one", Checks.days(x, "when over q;end;"), 1);
    }

    private static void countFaults() {
        String thirty = "night;".repeat(30);
        SaltStreet x = Checks.made(ROW);
        Checks.good(x, "30 STEPS", Checks.days(x, thirty), 30);
        Checks.faultyDays(ROW, thirty + "stop", 6, 180);
        Checks.faultyDays(ROW, thirty + "end", 2, 180);
        Checks.faultyDays(ROW, thirty + "a", 2, 180);
        String nested = "loop 1;".repeat(3);
        SaltStreet y = Checks.made(ROW);
        Checks.good(y, "three deep", Checks.days(y, nested + "night;end;end;loop 2;end;end;"), 5);
        Checks.faultyDays(ROW, nested + "loop 0;", 7, 21);
        Checks.faultyDays(ROW, nested + "when x;", 7, 21);
        Checks.faultyDays(ROW, "night;".repeat(27) + nested + "loop 1;", 6, 183);
        SaltStreet z = Checks.made(ROW);
        Checks.good(z, "30 of them with ends", Checks.days(z, "loop 1;stop;end;".repeat(15)), 30);
        SaltStreet w = Checks.made(ROW);
        Checks.good(w, "one behind the other", Checks.days(w, "loop 1;end;".repeat(27)), 27);
        Checks.good(w, "live", w.live(0), 27);
    }

    private static void live() {
        SaltStreet x = Checks.made(ROW);
        Checks.days(x, "strew a 4;buy g 5 to d;sweep b;snow 2;rain 16;night;");
        Checks.good(x, "live(0)", x.live(0), 6);
        SaltStreet y = Checks.made(ROW);
        y.strew(0, 4);
        y.buy(0, 5, 3);
        y.sweep(1);
        y.snow(2);
        y.rain();
        y.night();
        for (int h = 0; h < 4; h++) {
            for (int what = 0; what < 3; what++) {
                Checks.due("step(" + h + ", " + what + ")", x.step(h, what), y.step(h, what));
            }
        }
        for (int what = 0; what <= 10; what++) {
            Checks.due("told(" + what + ")", x.told(what), y.told(what));
        }
        Checks.due("purse()", x.purse(), y.purse());
        Checks.due("STOCK", x.grocer(0, 0), 15);
        Checks.good(x, "live again goes on", x.live(0), 6);
        Checks.good(x, "told(4)", x.told(4), 2);
        Checks.refused(x, "live(-1)", x.live(-1), 1);
        Checks.refused(x, "live(10000)", x.live(10000), 1);
        Checks.good(x, "live(9999)", x.live(9999), 6);
        SaltStreet none = Checks.made(ROW);
        Checks.refused(none, "1 ahead of 6", none.live(-1), 1);
        Checks.refused(none, "no DAYS", none.live(0), 6);
    }

    /** A test that holds lets one grain more fall onto d. */
    private static void holds(String test, boolean want) {
        SaltStreet x = Checks.made(ROW);
        x.night();
        Checks.days(x, "when " + test + ";strew d 1;end;strew b 1;");
        Checks.good(x, "live, when " + test, x.live(0), want ? 3 : 2);
        Checks.good(x, "when " + test, x.step(3, 0), want ? 2 : 1);
        Checks.good(x, "what is behind the end", x.step(1, 0), 6);
    }

    private static void tests() {
        holds("over p", true);
        holds("over q", false);
        holds("truce p", true);
        holds("truce q", false);
        holds("lies a<4", false);
        holds("lies a<5", true);
        holds("lies a=4", true);
        holds("lies a=5", false);
        holds("lies a>3", true);
        holds("lies a>4", false);
        SaltStreet x = Checks.made("house a salt 1 sugar 2;house b;");
        x.snow(5);
        Checks.days(x, "when lies a=3;strew b 1;end;");
        x.live(0);
        Checks.good(x, "all grains, under SNOW, too", x.step(1, 0), 1);
    }

    private static void loops() {
        SaltStreet x = Checks.made(ROW);
        Checks.days(x, "loop 3;strew b 1;loop 2;strew d 1;end;end;night;");
        Checks.good(x, "live(0)", x.live(0), 1 + 3 * (1 + 1 + 2) + 1);
        Checks.good(x, "b", x.step(1, 0), 8);
        Checks.good(x, "d", x.step(3, 0), 7);
        SaltStreet y = Checks.made(ROW);
        Checks.days(y, "loop 99;loop 99;loop 99;end;end;end;");
        Checks.good(y, "empty ones", y.live(0), 300);
        Checks.good(y, "one was left", y.lived(4), 1);
        SaltStreet z = Checks.made(ROW);
        Checks.days(z, "loop 99;end;loop 99;end;");
        Checks.good(z, "each counts once", z.live(0), 2);
        SaltStreet w = Checks.made(ROW);
        Checks.days(w, "loop 3;when lies d<2;strew d 1;end;end;");
        Checks.good(w, "when within loop", w.live(0), 1 + 2 + 2 + 1);
    }

    private static void stopAndCut() {
        SaltStreet x = Checks.made(ROW);
        Checks.days(x, "loop 9;strew d 1;when lies d=4;stop;end;end;night;");
        Checks.good(x, "stop", x.live(0), 1 + 4 * 2 + 1);
        Checks.good(x, "d", x.step(3, 0), 4);
        Checks.good(x, "none is left", x.lived(4), 0);
        SaltStreet y = Checks.made(ROW);
        Checks.days(y, "loop 99;strew d 1;strew b 1;strew a 1;end;stop;stop;");
        Checks.good(y, "just 300", y.live(0), 299);
        Checks.good(y, "none is left", y.lived(4), 0);
        SaltStreet z = Checks.made(ROW);
        Checks.days(z, "loop 99;strew d 1;strew b 1;strew a 1;end;night;night;");
        Checks.good(z, "just 300", z.live(0), 300);
        Checks.good(z, "none is left", z.lived(4), 0);
        SaltStreet w = Checks.made(ROW);
        Checks.days(w, "loop 99;strew d 1;strew b 1;strew a 1;end;night;night;stop;");
        Checks.good(w, "one more", w.live(0), 300);
        Checks.good(w, "one is left", w.lived(4), 1);
        SaltStreet v = Checks.made(ROW);
        Checks.days(v, "loop 99;strew d 1;strew b 1;strew a 1;strew d 1;end;");
        Checks.good(v, "cut off", v.live(0), 300);
        Checks.good(v, "d", v.step(3, 0), 149);
        Checks.good(v, "a", v.step(0, 0), 5 + 75);
        SaltStreet u = Checks.made(ROW);
        Checks.days(u, "loop 2;loop 74;strew d 1;strew b 1;end;end;loop 1;end;");
        Checks.good(u, "two loops", u.live(0), 1 + 2 * (1 + 148) + 1);
        Checks.good(u, "ends are none", u.lived(4), 0);
    }

    private static void missed() {
        SaltStreet x = Checks.made(ROW);
        Checks.days(x, "buy g 21 to a;buy g 20 to a;buy g 1 to a;");
        Checks.good(x, "MISSED ones count as done", x.live(0), 3);
        Checks.good(x, "MISSED", x.lived(0), 2);
        Checks.good(x, "STOCK", x.grocer(0, 0), 0);
        Checks.good(x, "purse()", x.purse(), -40);
        Checks.days(x, "loop 11;strew b 999;end;strew b 4;strew b 1;");
        x.live(0);
        Checks.good(x, "MISSED", x.lived(0), 2);
        Checks.good(x, "b", x.step(1, 0), 5 + 9990 + 4);
        SaltStreet y = Checks.made(ROW);
        for (int i = 0; i < 10; i++) {
            y.strew(1, 999);
        }
        Checks.days(y, "buy g 5 to b;buy g 4 to b;");
        y.live(0);
        Checks.good(y, "MISSED", y.lived(0), 1);
        Checks.good(y, "STOCK", y.grocer(0, 0), 16);
        SaltStreet z = Checks.made(ROW);
        Checks.days(z, "loop 3;loop 99;night;end;end;");
        for (int i = 0; i < 4; i++) {
            z.live(0);
        }
        Checks.good(z, "DAY 999", z.told(4), 999);
        Checks.good(z, "MISSED", z.lived(0), 4 * 296 - 999 + 0);
    }

    private static void draws() {
        for (int seed = 0; seed < 10000; seed += 37) {
            for (int chance = 0; chance <= 16; chance += 4) {
                SaltStreet x = Checks.made("house a;");
                Checks.days(x, "loop 9;rain " + chance + ";end;");
                x.live(seed);
                int s = seed;
                int rains = 0;
                for (int i = 0; i < 9; i++) {
                    s = (s * 2791 + 11003) % 65536;
                    rains += s / 8 % 16 < chance ? 1 : 0;
                }
                Checks.good(x, "rains by seed " + seed + " of " + chance, x.lived(1), rains);
            }
        }
        SaltStreet y = Checks.made("house a salt 9;");
        Checks.days(y, "rain 0;rain 16;");
        y.live(5);
        Checks.good(y, "never and always", y.lived(1), 1);
        Checks.good(y, "RAINED today", y.told(10), 1);
        Checks.good(y, "WASHED", y.told(6), 5);
    }

    private static void livedCounts() {
        SaltStreet x = Checks.made("rain washes 5;house a salt 5;house b salt 5;house c salt 5;house d salt 5;"
                + "quarrel p of a and b needs 3;quarrel q of c and d needs 3;");
        Checks.days(x, "night;night;rain 16;night;strew a 3;strew b 3;night;rain 16;night;");
        Checks.good(x, "live(0)", x.live(0), 9);
        int[] want = {0, 2, 3, 3, 0};
        for (int what = 0; what < 5; what++) {
            Checks.good(x, "lived(" + what + ")", x.lived(what), want[what]);
        }
        Checks.days(x, "night;");
        x.live(0);
        for (int what = 0; what < 5; what++) {
            Checks.good(x, "lived(" + what + ") anew", x.lived(what), 0);
        }
    }

    private static void livedRefused() {
        SaltStreet x = Checks.made(ROW);
        Checks.refused(x, "there was none", x.lived(0), 6);
        Checks.refused(x, "1 ahead of 6", x.lived(5), 1);
        Checks.days(x, "rain 16;");
        Checks.refused(x, "there was none yet", x.lived(0), 6);
        x.live(-1);
        Checks.refused(x, "a refused one is none", x.lived(0), 6);
        x.odds(0, 0, 1);
        Checks.refused(x, "odds() is none", x.lived(0), 6);
        x.live(0);
        Checks.good(x, "lived(1)", x.lived(1), 1);
        Checks.refused(x, "lived(5)", x.lived(5), 1);
        Checks.refused(x, "lived(-1)", x.lived(-1), 1);
        x.live(10000);
        Checks.good(x, "of the latest with STATUS 0", x.lived(1), 1);
    }

    private static void odds() {
        SaltStreet x = Checks.made("rain washes 5;house a salt 5;house b salt 5;house c;"
                + "quarrel p of a and b needs 3;quarrel q of a and c needs 1;");
        Checks.refused(x, "no DAYS", x.odds(0, 0, 1), 6);
        Checks.days(x, "rain 8;night;");
        String before = Checks.seen(x);
        int good = 0;
        for (int seed = 100; seed < 120; seed++) {
            good += (seed * 2791 + 11003) % 65536 / 8 % 16 < 8 ? 0 : 1;
        }
        int divisor = java.math.BigInteger.valueOf(good).gcd(java.math.BigInteger.valueOf(20)).intValue();
        Checks.good(x, "odds(1, 100, 20)", x.odds(1, 100, 20));
        Checks.fraction(x, "odds(1, 100, 20)", good / divisor, 20 / divisor);
        Checks.good(x, "odds(3, 100, 20)", x.odds(3, 100, 20));
        Checks.fraction(x, "odds(3, 100, 20)", 0, 1);
        Checks.due("all stays as it is", Checks.seen(x), before);
        Checks.good(x, "of none", x.odds(0, 9980, 20));
        Checks.fraction(x, "of none", 1, 1);
        Checks.refused(x, "the last above 9,999", x.odds(0, 9981, 20), 1);
        Checks.good(x, "the last of all", x.odds(0, 9999, 1));
        Checks.refused(x, "many 0", x.odds(0, 0, 0), 1);
        Checks.refused(x, "many 21", x.odds(0, 0, 21), 1);
        Checks.refused(x, "seed -1", x.odds(0, -1, 2), 1);
        Checks.refused(x, "seed 10000", x.odds(0, 10000, 1), 1);
        Checks.refused(x, "the greatest seed", x.odds(0, Integer.MAX_VALUE, 20), 1);
        Checks.refused(x, "others", x.odds(4, 0, 1), 1);
        Checks.refused(x, "others", x.odds(-1, 0, 1), 1);
        Checks.fraction(x, "a refused one tells none", 1, 1);
    }
}
