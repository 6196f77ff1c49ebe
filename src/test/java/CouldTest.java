/** Promises 50 to 58: what could be. */
public final class CouldTest {
    private static final int NONE = SaltStreet.NONE;

    public static void main(String[] args) {
        most();
        lack();
        lackAt();
        freed();
        cost();
        quiet();
        who();
        whoRefused();
        found();
        Checks.finish();
    }

    private static void most() {
        SaltStreet x = Checks.made("house a salt 6;house b salt 9;house c salt 4 sugar 5;house d gone;"
                + "quarrel p of a and b needs 6;quarrel q of a and b needs 3;quarrel r of a and c needs 3;"
                + "quarrel s of b and c needs 6;quarrel t of d and b needs 1;");
        Checks.good(x, "three, not the first", x.most(), 2 + 4 + 8);
        Checks.good(x, "though PEACE has", x.peace(), 1);
        x.snow(1);
        Checks.good(x, "under SNOW nothing", x.most(), 0);
        SaltStreet least = Checks.made("house a salt 2;house b salt 9;quarrel p of a and b needs 2;"
                + "quarrel q of a and b needs 2;");
        Checks.good(least, "of several the least", least.most(), 1);
        SaltStreet counts = Checks.made("gone counts;house a salt 2;house d gone;house e gone;"
                + "quarrel p of a and d needs 3;quarrel q of a and e needs 2;quarrel r of d and e needs 9;");
        Checks.good(counts, "GONE needs nothing", counts.most(), 6);
    }

    private static void lack() {
        String row = "house a salt 2 sugar 3;house b;house c gone;house d salt 9;quarrel p of a and b needs 4;"
                + "quarrel q of a and d needs 7;quarrel r of c and d needs 8;";
        SaltStreet x = Checks.made(row);
        Checks.good(x, "none of it", x.lack(0), 0);
        Checks.good(x, "lack(1)", x.lack(1), 4);
        Checks.good(x, "lack(2)", x.lack(2), 2);
        Checks.good(x, "lack(3)", x.lack(3), 6 + 4);
        Checks.good(x, "one never can", x.lack(4), NONE);
        Checks.good(x, "one never can", x.lack(7), NONE);
        Checks.refused(x, "others", x.lack(8), 1);
        Checks.refused(x, "others", x.lack(-1), 1);
        x.snow(2);
        Checks.good(x, "SNOW as if away", x.lack(2), 2);
        SaltStreet y = Checks.made("gone counts;" + row);
        Checks.good(y, "GONE counts", y.lack(4), 0);
        Checks.good(y, "GONE counts", y.lack(7), 6 + 4 + 6);
        SaltStreet none = new SaltStreet();
        Checks.good(none, "no QUARRELS", none.lack(0), 0);
        Checks.refused(none, "no QUARRELS", none.lack(1), 1);
    }

    private static void lackAt() {
        SaltStreet x = Checks.made("house a salt 2 sugar 3;house b;house c gone;house d salt 9;"
                + "quarrel p of a and b needs 4;quarrel q of a and d needs 7;quarrel r of c and d needs 8;");
        Checks.good(x, "lackAt(3, 0)", x.lackAt(3, 0), 6);
        Checks.good(x, "lackAt(3, 1)", x.lackAt(3, 1), 4);
        Checks.good(x, "lackAt(3, 3)", x.lackAt(3, 3), 0);
        Checks.good(x, "lackAt(0, 0)", x.lackAt(0, 0), 0);
        Checks.good(x, "one never can", x.lackAt(6, 0), NONE);
        Checks.refused(x, "GONE", x.lackAt(3, 2), 7);
        Checks.refused(x, "others", x.lackAt(8, 0), 1);
        Checks.refused(x, "others, ahead of GONE", x.lackAt(-1, 2), 1);
        Checks.refused(x, "no such HOUSE", x.lackAt(0, 4), 1);
        Checks.refused(x, "no such HOUSE", x.lackAt(0, -1), 1);
    }

    private static void freed() {
        SaltStreet x = Checks.made("house a salt 6;house b salt 6;house c salt 3;quarrel p of a and b needs 5;"
                + "quarrel q of b and a needs 3;quarrel r of b and c needs 3;quarrel s of c and a needs 1;");
        Checks.good(x, "peace()", x.peace(), 1);
        Checks.good(x, "freed(0)", x.freed(0), 2 + 4);
        Checks.good(x, "freed(1)", x.freed(1), 0);
        Checks.good(x, "freed(2)", x.freed(2), 0);
        x.sweep(1);
        Checks.good(x, "one without PEACE", x.freed(2), 0);
        x.strew(0, 3);
        Checks.good(x, "takes from others, too", x.freed(2), 8);
        Checks.refused(x, "freed(4)", x.freed(4), 1);
        Checks.refused(x, "freed(-1)", x.freed(-1), 1);
    }

    private static void cost() {
        SaltStreet x = Checks.made("house a;grocer g stock 10 price 9;grocer h stock 0 price 1;"
                + "grocer i stock 5 price 2;grocer j stock 7 price 4;");
        int[][] want = {{1, 2, 2}, {5, 10, 2}, {6, 14, 4}, {12, 38, 4}, {13, 47, 9}, {22, 128, 9}};
        for (int[] row : want) {
            Checks.good(x, "cost(" + row[0] + ")", x.cost(row[0]), row[1]);
            Checks.good(x, "dearest(" + row[0] + ")", x.dearest(row[0]), row[2]);
        }
        Checks.good(x, "cost(0)", x.cost(0), 0);
        Checks.refused(x, "dearest(0)", x.dearest(0), 1);
        Checks.refused(x, "not so many", x.cost(23), 6);
        Checks.refused(x, "not so many", x.dearest(23), 6);
        Checks.refused(x, "not so many", x.cost(9999), 6);
        Checks.refused(x, "not so many", x.dearest(9999), 6);
        Checks.refused(x, "cost(10000)", x.cost(10000), 1);
        Checks.refused(x, "dearest(10000)", x.dearest(10000), 1);
        Checks.refused(x, "cost(-1)", x.cost(-1), 1);
        Checks.refused(x, "dearest(-1)", x.dearest(-1), 1);
        x.buy(2, 4, 0);
        Checks.good(x, "by the STOCKS now", x.cost(2), 6);
        Checks.good(x, "STOCKS stay", x.grocer(2, 0), 1);
    }

    private static void quiet() {
        SaltStreet x = Checks.made("rain washes 4;house a salt 10 sugar 99;house b gone;");
        x.snow(3);
        Checks.good(x, "quiet(0, 10, 0)", x.quiet(0, 10, 0), 0);
        Checks.good(x, "quiet(0, 11, 0)", x.quiet(0, 11, 0), 1);
        Checks.good(x, "quiet(0, 0, 2)", x.quiet(0, 0, 2), 0);
        Checks.good(x, "quiet(0, 0, 3)", x.quiet(0, 0, 3), 2);
        Checks.good(x, "quiet(0, 999, 9)", x.quiet(0, 999, 9), 999 + 36 - 10);
        Checks.refused(x, "left 1000", x.quiet(0, 1000, 0), 1);
        Checks.refused(x, "left -1", x.quiet(0, -1, 0), 1);
        Checks.refused(x, "nights 10", x.quiet(0, 0, 10), 1);
        Checks.refused(x, "nights -1", x.quiet(0, 0, -1), 1);
        Checks.refused(x, "quiet(2, 0, 0)", x.quiet(2, 0, 0), 1);
        Checks.refused(x, "quiet(-1, 0, 0)", x.quiet(-1, 0, 0), 1);
        Checks.refused(x, "GONE", x.quiet(1, 0, 0), 7);
        SaltStreet plain = Checks.made("house a;");
        Checks.good(plain, "5 without", plain.quiet(0, 1, 2), 11);
    }

    private static void who() {
        SaltStreet x = Checks.made("house a;house b;house c;house d;house e gone;house f;");
        Checks.good(x, "nothing is missing", whoSwept(x, 9, 0, 0, 0, 0, 0, 0), 0);
        Checks.good(x, "one", whoSwept(x, 9, 3, 3, 3, 0, 0, 0), 2);
        Checks.good(x, "two", whoSwept(x, 8, 3, 3, 3, 0, 0, 0), 3);
        Checks.good(x, "the ghost", whoSwept(x, 9, 0, 0, 0, 4, 0, 5), 16);
        Checks.good(x, "the least set", whoSwept(x, 9, 9, 0, 0, 9, 0, 0), 1 + 4);
        Checks.good(x, "all", whoSwept(x, 2, 4, 2, 2, 2, 0, 2), 63);
        Checks.refused(x, "nobody can have", whoSwept(x, 2, 5, 0, 0, 0, 0, 0), 6);
        Checks.refused(x, "nobody can have", whoSwept(x, 999, 9999, 0, 0, 0, 0, 0), 6);
        Checks.good(x, "three", whoSwept(x, 999, 0, 2997, 0, 0, 0, 0), 7);
        Checks.good(x, "more numbers than HOUSES", whoSwept(x, 9, 0, 1, 0, 0, 0, 0, -7, 70000), 1);
        SaltStreet none = new SaltStreet();
        none.tray(0, 0, 0);
        Checks.good(none, "no HOUSES", none.who(0, 1), 0);
    }

    private static int whoSwept(SaltStreet x, int grains, long... missing) {
        x.tray(0, 2, missing.length);
        for (int i = 0; i < missing.length; i++) {
            x.write(0, i, missing[i]);
        }
        return x.who(0, grains);
    }

    private static void whoRefused() {
        SaltStreet x = Checks.made("house a;house b gone;");
        Checks.refused(x, "who(-1, 1)", x.who(-1, 1), 1);
        Checks.refused(x, "who(4, 1)", x.who(4, 1), 1);
        Checks.refused(x, "who(0, 0)", x.who(0, 0), 1);
        Checks.refused(x, "who(0, 1000)", x.who(0, 1000), 1);
        Checks.refused(x, "MISSING", x.who(0, 1), 2);
        x.tray(0, 3, 1);
        x.write(0, 0, -1);
        Checks.refused(x, "too few", x.who(0, 1), 3);
        x.tray(0, 3, 2);
        x.write(0, 0, -1);
        Checks.refused(x, "below 0", x.who(0, 1), 5);
        x.write(0, 0, 10000);
        Checks.refused(x, "above 9,999", x.who(0, 1), 5);
        x.write(0, 0, 1L << 32);
        Checks.refused(x, "far above", x.who(0, 1), 5);
        x.write(0, 0, 9999);
        Checks.refused(x, "9,999 can be, but nobody can have", x.who(0, 1), 6);
        x.write(0, 1, 1);
        Checks.refused(x, "at a GONE one, ahead of 6", x.who(0, 1), 5);
        x.write(0, 0, 1);
        x.write(0, 1, 0);
        Checks.good(x, "who(0, 1)", x.who(0, 1), 1);
    }

    private static void found() {
        SaltStreet x = Checks.made("house a salt 3 sugar 2;house b gone;house c salt 9;house d sugar 4;house e;"
                + "house f salt 999 sugar 1;");
        Checks.good(x, "found(0, 1)", x.found(0, 1));
        Checks.fraction(x, "found(0, 1)", 2, 5);
        Checks.good(x, "found(0, 2)", x.found(0, 2));
        Checks.fraction(x, "found(0, 2)", 7, 10);
        Checks.good(x, "found(0, 3)", x.found(0, 3));
        Checks.fraction(x, "found(0, 3)", 9, 10);
        Checks.good(x, "found(0, 4)", x.found(0, 4));
        Checks.fraction(x, "found(0, 4)", 1, 1);
        Checks.good(x, "no SUGAR", x.found(2, 4));
        Checks.fraction(x, "no SUGAR", 0, 1);
        Checks.good(x, "all SUGAR", x.found(3, 4));
        Checks.fraction(x, "all SUGAR", 1, 1);
        Checks.good(x, "found(5, 4)", x.found(5, 4));
        Checks.fraction(x, "found(5, 4)", 1, 250);
        Checks.refused(x, "tasted 0", x.found(0, 0), 1);
        Checks.refused(x, "tasted 5", x.found(0, 5), 1);
        Checks.refused(x, "found(6, 1)", x.found(6, 1), 1);
        Checks.refused(x, "found(-1, 1)", x.found(-1, 1), 1);
        Checks.refused(x, "GONE", x.found(1, 1), 7);
        Checks.refused(x, "fewer grains", x.found(4, 1), 7);
        x.sweep(0);
        x.strew(0, 3);
        Checks.refused(x, "fewer grains", x.found(0, 4), 7);
        Checks.fraction(x, "a refused one tells none", 1, 250);
        for (int i = 0; i < 10; i++) {
            x.strew(5, i == 9 ? 8 : 999);
        }
        Checks.good(x, "SALT", x.step(5, 0), 9998);
        Checks.good(x, "9,999 grains", x.found(5, 4));
        Checks.fraction(x, "9,999 grains", 4, 9999);
        x.shovel(2, 5, 1);
        Checks.refused(x, "above 9,999", x.found(5, 4), 7);
    }
}
