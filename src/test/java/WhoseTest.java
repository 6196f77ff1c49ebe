/** Promises 18 to 24: WHOSE the grains are, PEACE, TRUCE, what is OVER, what is HOPELESS. */
public final class WhoseTest {
    private static final String ROW = "house a salt 8 sugar 2;house b salt 3;house c gone;house d salt 50;"
            + "quarrel p of a and b needs 4;quarrel q of b and d needs 2;quarrel r of a and d needs 5;"
            + "quarrel s of c and a needs 3;quarrel t of a and d needs 1;";

    public static void main(String[] args) {
        share();
        whose();
        nobodys();
        snowHides();
        peaceAndTruce();
        goneCounts();
        over();
        Checks.finish();
    }

    private static void share() {
        SaltStreet x = Checks.made(ROW);
        int[][] want = {{4, 3}, {0, 2}, {5, 5}, {-1, 1}, {0, 1}};
        for (int q = 0; q < 5; q++) {
            for (int side = 0; side < 2; side++) {
                if (want[q][side] >= 0) {
                    Checks.good(x, "share(" + q + ", " + side + ")", x.share(q, side), want[q][side]);
                }
            }
        }
        Checks.refused(x, "share of a GONE one", x.share(3, 0), 7);
        Checks.refused(x, "share(5, 0)", x.share(5, 0), 1);
        Checks.refused(x, "share(-1, 0)", x.share(-1, 0), 1);
        Checks.refused(x, "share(0, 2)", x.share(0, 2), 1);
        Checks.refused(x, "share(0, -1)", x.share(0, -1), 1);
        Checks.refused(x, "1 ahead of 7", x.share(3, 2), 1);
    }

    private static void whose() {
        SaltStreet x = Checks.made(ROW);
        int[] want = {0, 0, 0, 0, 2, 2, 2, 2, 2, 3};
        for (int k = 0; k < want.length; k++) {
            Checks.good(x, "whose(0, " + k + ")", x.whose(0, k), want[k]);
        }
        Checks.refused(x, "there is none such", x.whose(0, 10), 6);
        Checks.refused(x, "there is none such", x.whose(0, Integer.MAX_VALUE), 6);
        Checks.good(x, "whose(3, 7)", x.whose(3, 7), 4);
        Checks.refused(x, "nobody's", x.whose(3, 8), 6);
        Checks.refused(x, "GONE, ahead of 6", x.whose(2, 99), 7);
        Checks.refused(x, "k below 0", x.whose(2, -1), 1);
        Checks.refused(x, "whose(4, 0)", x.whose(4, 0), 1);
        Checks.refused(x, "whose(-1, 0)", x.whose(-1, 0), 1);
    }

    private static void nobodys() {
        SaltStreet x = Checks.made(ROW);
        Checks.good(x, "nobodys(0)", x.nobodys(0), 0);
        Checks.good(x, "nobodys(1)", x.nobodys(1), 0);
        Checks.good(x, "nobodys(3)", x.nobodys(3), 42);
        Checks.refused(x, "nobodys(2)", x.nobodys(2), 7);
        Checks.refused(x, "nobodys(4)", x.nobodys(4), 1);
        Checks.refused(x, "nobodys(-1)", x.nobodys(-1), 1);
    }

    private static void snowHides() {
        SaltStreet x = Checks.made(ROW);
        x.snow(1);
        Checks.good(x, "share(0, 0)", x.share(0, 0), 0);
        Checks.refused(x, "whose(0, 0)", x.whose(0, 0), 6);
        Checks.good(x, "all are nobody's", x.nobodys(0), 10);
        Checks.good(x, "peace()", x.peace(), 0);
        Checks.good(x, "truce()", x.truce(), 0);
        SaltStreet y = Checks.made("house a salt 3;house b salt 3;quarrel p of a and b needs 2;");
        y.snow(0);
        Checks.good(y, "SNOW of 0 is none", y.peace(), 1);
        y.snow(1);
        Checks.good(y, "SNOW", y.peace(), 0);
    }

    private static void peaceAndTruce() {
        SaltStreet x = Checks.made(ROW);
        Checks.good(x, "peace()", x.peace(), 4);
        Checks.good(x, "truce()", x.truce(), 1 + 4);
        x.strew(1, 1);
        Checks.good(x, "peace()", x.peace(), 1 + 4);
        x.strew(1, 1);
        Checks.good(x, "truce()", x.truce(), 1 + 2 + 4);
        x.strew(0, 2);
        Checks.good(x, "peace() without the last", x.peace(), 1 + 4);
        x.strew(0, 1);
        Checks.good(x, "peace() with the last", x.peace(), 1 + 4 + 16);
        SaltStreet y = Checks.made("house a sugar 3;house b sugar 3;quarrel p of a and b needs 3;");
        Checks.good(y, "SUGAR looks like SALT", y.peace(), 1);
    }

    private static void goneCounts() {
        String tail = "house a salt 5;house b gone;house c gone;quarrel p of a and b needs 5;"
                + "quarrel q of b and c needs 99;quarrel r of c and a needs 1;";
        SaltStreet never = Checks.made(tail);
        Checks.good(never, "peace()", never.peace(), 0);
        Checks.good(never, "truce()", never.truce(), 0);
        Checks.good(never, "hopeless()", never.hopeless(), 7);
        Checks.good(never, "ghosts()", never.ghosts(), 2);
        SaltStreet counts = Checks.made("gone counts;" + tail);
        Checks.good(counts, "peace()", counts.peace(), 3);
        Checks.good(counts, "truce()", counts.truce(), 3);
        Checks.good(counts, "hopeless()", counts.hopeless(), 0);
        Checks.good(counts, "ghosts()", counts.ghosts(), 2);
        counts.strew(0, 1);
        Checks.good(counts, "peace()", counts.peace(), 7);
        counts.sweep(0);
        counts.strew(0, 1);
        Checks.good(counts, "truce()", counts.truce(), 3);
        Checks.good(counts, "peace()", counts.peace(), 2);
        SaltStreet none = Checks.made("house a;house b;quarrel p of a and b needs 99;");
        Checks.good(none, "hopeless()", none.hopeless(), 0);
    }

    private static void over() {
        SaltStreet x = Checks.made("rain washes 3;house a salt 5;house b salt 5;house c salt 1;"
                + "quarrel p of a and b needs 2;quarrel q of b and c needs 3;");
        Checks.good(x, "over()", x.over(), 0);
        x.night();
        Checks.good(x, "over() behind a NIGHT", x.over(), 1);
        Checks.good(x, "quarrel(0, 3)", x.quarrel(0, 3), 1);
        Checks.good(x, "quarrel(1, 3)", x.quarrel(1, 3), 0);
        x.sweep(0);
        x.night();
        Checks.good(x, "without RAIN it stays OVER", x.over(), 1);
        x.rain();
        Checks.good(x, "by day it stays OVER", x.over(), 1);
        x.night();
        Checks.good(x, "RAIN starts it again", x.over(), 0);
        Checks.good(x, "WAR of one", x.quarrel(0, 4), 1);
        Checks.good(x, "WAR of the other", x.quarrel(1, 4), 3);
    }
}
