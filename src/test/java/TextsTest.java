/** Promises 9 to 17: the tape, a STREET's text and its FAULTS, what was told. */
public final class TextsTest {
    private static final int NONE = SaltStreet.NONE;
    private static final String THREE = "house a;house b;house c gone;";

    public static void main(String[] args) {
        feed();
        streetTakesTheTape();
        theTextIsCut();
        numbersThatCannotBe();
        notATokenFaults();
        cannotStandFaults();
        nameFaults();
        numberFaults();
        notAllowedFaults();
        oneMoreFaults();
        firstFaultAlongTheText();
        theOldStreetStays();
        faultTells();
        told();
        stepQuarrelGrocer();
        aNewStreetForgets();
        Checks.finish();
    }

    private static void feed() {
        SaltStreet x = new SaltStreet();
        for (int i = 1; i <= 45; i++) {
            Checks.due("feed", x.feed(0x3B3B3B3B, 0, 0, 0, 0), 20 * i);
        }
        Checks.due("feed of too many", x.feed(0, 0, 0, 0, 0), NONE);
        Checks.due("feed has no STATUS", x.status(), 0);
        Checks.refused(x, "street(901)", x.street(901), 1);
        Checks.due("feed has no STATUS", x.feed(0, 0, 0, 0, 0), NONE);
        Checks.due("status() stays", x.status(), 1);
        SaltStreet y = new SaltStreet();
        y.feed(0x686F7573, 0x6520613B, 0x0A0A2020, 0xFF3B3B3B, 0);
        Checks.refused(y, "a byte of 255", y.street(13), 9);
        Checks.due("fault(0)", y.fault(0), 1);
        Checks.due("fault(1)", y.fault(1), 12);
    }

    private static void streetTakesTheTape() {
        SaltStreet x = new SaltStreet();
        Checks.feed(x, "house a;house b;quarrel p of a and b needs 3;");
        Checks.refused(x, "street(-1)", x.street(-1), 1);
        Checks.refused(x, "street(61)", x.street(61), 1);
        Checks.due("no fault told", x.fault(0), NONE);
        Checks.good(x, "street(16) of the first bytes", x.street(16), 0);
        Checks.good(x, "told(0)", x.told(0), 2);
        Checks.refused(x, "the tape is empty", x.street(1), 1);
        Checks.due("feed begins anew", x.feed(0, 0, 0, 0, 0), 20);
        Checks.refused(x, "a byte 0", x.street(1), 9);
        Checks.due("and anew behind 9", x.feed(0, 0, 0, 0, 0), 20);
        Checks.good(x, "street(0)", x.street(0), 0);
        Checks.good(x, "told(0)", x.told(0), 0);
        SaltStreet y = new SaltStreet();
        StringBuilder s = new StringBuilder(THREE);
        while (s.length() < 900) {
            s.append(s.length() % 2 == 0 ? ' ' : '\n');
        }
        Checks.good(y, "a text of 900", Checks.street(y, s.toString()), 0);
        Checks.good(y, "told(0)", y.told(0), 3);
        SaltStreet z = new SaltStreet();
        Checks.good(z, "blanks are free", Checks.street(z,
                "house\na salt7sugar 8;house b ; quarrel p\n\n of a and b needs0003 ;"), 1);
        Checks.good(z, "SALT", z.step(0, 0), 7);
        Checks.good(z, "SUGAR", z.step(0, 1), 8);
        Checks.good(z, "NEEDS", z.quarrel(0, 2), 3);
    }

    /** What stands on the tape behind the first n bytes is nothing to the text. */
    private static void theTextIsCut() {
        SaltStreet x = new SaltStreet();
        Checks.feed(x, "house a salt 012345;");
        Checks.refused(x, "cut within a NUMBER", x.street(17), 9);
        Checks.due("fault(0)", x.fault(0), 2);
        Checks.due("fault(1)", x.fault(1), 17);
        Checks.feed(x, "house abcdefghij;");
        Checks.refused(x, "cut within a WORD", x.street(14), 9);
        Checks.due("fault(0)", x.fault(0), 2);
        Checks.due("fault(1)", x.fault(1), 14);
        Checks.feed(x, "house a;   !");
        Checks.good(x, "cut within blanks", x.street(10), 0);
        Checks.feed(x, "night;nightly;");
        Checks.refused(x, "cut within a WORD of DAYS", x.days(11), 9);
        Checks.due("fault(0)", x.fault(0), 2);
        Checks.due("fault(1)", x.fault(1), 11);
        Checks.feed(x, "night;nightly;");
        Checks.good(x, "cut behind a sign", x.days(6), 1);
    }

    private static void numbersThatCannotBe() {
        SaltStreet x = Checks.made("house a;");
        Checks.feed(x, "house b;house c;");
        Checks.refused(x, "days above the tape", x.days(21), 1);
        Checks.refused(x, "days(-1)", x.days(-1), 1);
        Checks.refused(x, "street of the least", x.street(Integer.MIN_VALUE), 1);
        Checks.good(x, "the tape is as it was", x.street(16), 0);
        Checks.good(x, "told(0)", x.told(0), 2);
    }

    private static void notATokenFaults() {
        Checks.faultyStreet("House a;", 1, 0);
        Checks.faultyStreet("house a\t;", 1, 7);
        Checks.faultyStreet("house a\r;", 1, 7);
        Checks.faultyStreet("house a;!", 1, 8);
        Checks.faultyStreet("house a salt 10000;", 1, 13);
        Checks.faultyStreet("house a salt 00001;", 1, 13);
        Checks.faultyStreet("house a salt -1;", 1, 13);
        Checks.faultyStreet("12345", 1, 0);
        Checks.faultyStreet("house a {", 1, 8);
        Checks.faultyStreet("house a `", 1, 8);
        Checks.faultyStreet("house a :", 1, 8);
        Checks.faultyStreet("house a /", 1, 8);
        Checks.faultyStreet("house a ?", 1, 8);
    }

    private static void cannotStandFaults() {
        Checks.faultyStreet("a", 2, 0);
        Checks.faultyStreet("houses a;", 2, 0);
        Checks.faultyStreet(";", 2, 0);
        Checks.faultyStreet("house a;;", 2, 8);
        Checks.faultyStreet("house a;7", 2, 8);
        Checks.faultyStreet("house a <", 2, 8);
        Checks.faultyStreet("house", 2, 5);
        Checks.faultyStreet("house \n ", 2, 8);
        Checks.faultyStreet("house 5", 2, 6);
        Checks.faultyStreet("house ;", 2, 6);
        Checks.faultyStreet("house a salt ;", 2, 13);
        Checks.faultyStreet("house a salt 1 salt 1;", 2, 15);
        Checks.faultyStreet("house a gone gone;", 2, 13);
        Checks.faultyStreet("house a gone sugar 1;", 2, 13);
        Checks.faultyStreet("house a house b;", 2, 8);
        Checks.faultyStreet(THREE + "quarrel p a", 2, 39);
        Checks.faultyStreet(THREE + "quarrel p of a and b needs ;", 2, 56);
        Checks.faultyStreet(THREE + "quarrel p of a and b needs 1 gone", 2, 58);
        Checks.faultyStreet(THREE + "quarrel p of abcdefghi", 2, 42);
        Checks.faultyStreet(THREE + "cat t from a to b ;", 2, 47);
        Checks.faultyStreet(THREE + "cat t to a", 2, 35);
        Checks.faultyStreet("grocer g stock 1 sweet 3", 2, 17);
        Checks.faultyStreet("grocer g stock 1 price 1 sweet ;", 2, 31);
        Checks.faultyStreet("rain washes ;", 2, 12);
        Checks.faultyStreet("rain washes 1", 2, 13);
        Checks.faultyStreet("gone counts", 2, 11);
        Checks.faultyStreet("gone house a;", 2, 5);
        String[] words = ("house salt sugar gone quarrel of and needs cat from to takes grocer stock price sweet"
                + " rain washes counts buy strew sweep snow night when over truce lies loop end stop").split(" ");
        Checks.due("how many words", words.length, 31);
        for (String word : words) {
            Checks.faultyStreet("house " + word + ";", 2, 6);
            SaltStreet x = Checks.made("house " + word + "x;house x" + word + ";");
            Checks.good(x, "told(0)", x.told(0), 2);
        }
        SaltStreet y = Checks.made("house abcdefgh;");
        Checks.good(y, "a NAME of 8", y.told(0), 1);
    }

    private static void nameFaults() {
        Checks.faultyStreet("house a;house b;house a;", 3, 22);
        Checks.faultyStreet(THREE + "quarrel a", 3, 37);
        Checks.faultyStreet(THREE + "quarrel p of p", 3, 42);
        Checks.faultyStreet(THREE + "quarrel p of a and d", 3, 48);
        Checks.faultyStreet(THREE + "quarrel p of a and b needs 1;cat p", 3, 62);
        Checks.faultyStreet(THREE + "cat t from x", 3, 40);
        Checks.faultyStreet(THREE + "cat t from a to x", 3, 45);
        Checks.faultyStreet(THREE + "grocer b", 3, 36);
        Checks.faultyStreet("grocer g stock 1 price 1;house g", 3, 31);
        Checks.faultyStreet("grocer g stock 1 price 1;house h;cat t from g", 3, 44);
        Checks.faultyStreet("house abcdefgh;house abcdefgh;", 3, 21);
        SaltStreet x = Checks.made("house abcdefgh;house abcdefg;house b;house hgfedcba;house az;house za;house zz;");
        Checks.good(x, "NAMES that are unlike", x.told(0), 7);
    }

    private static void numberFaults() {
        Checks.faultyStreet("house a salt 1000;", 4, 13);
        Checks.faultyStreet("house a sugar 1000;", 4, 14);
        Checks.faultyStreet(THREE + "quarrel p of a and b needs 0;", 4, 56);
        Checks.faultyStreet(THREE + "quarrel p of a and b needs 100;", 4, 56);
        Checks.faultyStreet(THREE + "cat t from a to b takes 0;", 4, 53);
        Checks.faultyStreet(THREE + "cat t from a to b takes 100;", 4, 53);
        Checks.faultyStreet("grocer g stock 1000 price 1;", 4, 15);
        Checks.faultyStreet("grocer g stock 1 price 0;", 4, 23);
        Checks.faultyStreet("grocer g stock 1 price 100;", 4, 23);
        Checks.faultyStreet("grocer g stock 1 price 1 sweet 17;", 4, 31);
        Checks.faultyStreet("rain washes 100;", 4, 12);
        SaltStreet x = Checks.made("rain washes 99;house a salt 999 sugar 999;house b salt 0 sugar 0;"
                + "quarrel p of a and b needs 99;quarrel q of b and a needs 1;cat t from a to b takes 99;"
                + "cat u from b to a takes 1;grocer g stock 999 price 99 sweet 16;grocer h stock 0 price 1 sweet 0;");
        Checks.good(x, "SALT", x.step(0, 0), 999);
        Checks.good(x, "SUGAR", x.step(0, 1), 999);
        Checks.good(x, "NEEDS", x.quarrel(0, 2), 99);
        Checks.good(x, "takes", x.cat(0, 2), 99);
        Checks.good(x, "STOCK", x.grocer(0, 0), 999);
        Checks.good(x, "PRICE", x.grocer(0, 1), 99);
        Checks.good(x, "sixteenths", x.grocer(0, 2), 16);
        Checks.good(x, "RAIN WASHES 99", x.rain(), 99 + 999);
        SaltStreet y = Checks.made("rain washes 0;house a salt 9;");
        Checks.good(y, "RAIN WASHES 0", y.rain(), 0);
        SaltStreet z = Checks.made("house a salt 9;");
        Checks.good(z, "RAIN WASHES 5 without", z.rain(), 5);
    }

    private static void notAllowedFaults() {
        Checks.faultyStreet("house a salt 0 gone;", 5, 15);
        Checks.faultyStreet("house a sugar 0 gone;", 5, 16);
        Checks.faultyStreet("house a salt 1 sugar 1 gone;", 5, 23);
        Checks.faultyStreet(THREE + "quarrel p of b and b", 5, 48);
        Checks.faultyStreet(THREE + "cat t from c", 5, 40);
        Checks.faultyStreet(THREE + "cat t from a to c", 5, 45);
        Checks.faultyStreet(THREE + "cat t from a to a", 5, 45);
        Checks.faultyStreet("rain washes 1;rain washes 1;", 5, 19);
        Checks.faultyStreet("gone counts;house a;gone counts;", 5, 25);
        SaltStreet x = Checks.made(THREE + "quarrel p of a and c needs 1;");
        Checks.good(x, "a QUARREL may be with a GONE one", x.told(1), 1);
    }

    private static void oneMoreFaults() {
        StringBuilder houses = new StringBuilder();
        for (char c = 'a'; c <= 'h'; c++) {
            houses.append("house ").append(c).append(';');
        }
        StringBuilder quarrels = new StringBuilder(houses);
        StringBuilder cats = new StringBuilder(houses);
        StringBuilder grocers = new StringBuilder(houses);
        for (char c = 'a'; c <= 'h'; c++) {
            quarrels.append("quarrel q").append(c).append(" of a and b needs 1;");
        }
        for (char c = 'a'; c <= 'd'; c++) {
            cats.append("cat t").append(c).append(" from a to b takes 1;");
            grocers.append("grocer g").append(c).append(" stock 1 price 1;");
        }
        Checks.good(Checks.made(houses.toString()), "eight", 0, 0);
        Checks.good(Checks.made(quarrels.toString()), "eight", 0, 0);
        Checks.good(Checks.made(cats.toString()), "four", 0, 0);
        Checks.good(Checks.made(grocers.toString()), "four", 0, 0);
        Checks.faultyStreet(houses + "house a", 6, houses.length());
        Checks.faultyStreet(quarrels + "quarrel !", 6, quarrels.length());
        Checks.faultyStreet(cats + "cat", 6, cats.length());
        Checks.faultyStreet(grocers + "  grocer x", 6, grocers.length() + 2);
    }

    private static void firstFaultAlongTheText() {
        Checks.faultyStreet("house a salt 1000 !", 4, 13);
        Checks.faultyStreet("house a ! salt 1000", 1, 8);
        Checks.faultyStreet("house a b house a;", 2, 8);
        Checks.faultyStreet(THREE + "quarrel p of x and x needs 0", 3, 42);
        Checks.faultyStreet(THREE + "cat t from c to c takes 100;", 5, 40);
    }

    private static void theOldStreetStays() {
        SaltStreet x = Checks.made("house a salt 3;house b;quarrel p of a and b needs 1;");
        x.strew(1, 4);
        x.night();
        Checks.days(x, "night;");
        String before = Checks.seen(x);
        Checks.refused(x, "street with a FAULT", Checks.street(x, "house c salt 5;house c;"), 9);
        Checks.due("fault(0)", x.fault(0), 3);
        Checks.good(x, "live(0): DAYS are there yet", x.live(0), 1);
        Checks.good(x, "told(4)", x.told(4), 2);
        SaltStreet y = Checks.made("house a salt 3;house b;quarrel p of a and b needs 1;");
        y.strew(1, 4);
        y.night();
        Checks.days(y, "night;");
        Checks.due("the same was ahead", Checks.seen(y), before);
        Checks.refused(y, "days with a FAULT", Checks.days(y, "night;night"), 9);
        Checks.good(y, "the old DAYS are there yet", y.live(0), 1);
    }

    private static void faultTells() {
        SaltStreet x = new SaltStreet();
        Checks.due("ahead of any", x.fault(0), NONE);
        Checks.due("ahead of any", x.fault(1), NONE);
        Checks.street(x, "house a;");
        Checks.due("without one", x.fault(0), 0);
        Checks.due("without one", x.fault(1), NONE);
        Checks.due("what 2", x.fault(2), NONE);
        Checks.due("what -1", x.fault(-1), NONE);
        Checks.days(x, "night;!");
        Checks.due("of days()", x.fault(0), 1);
        Checks.due("of days()", x.fault(1), 6);
        x.street(-5);
        Checks.due("STATUS 1 tells none", x.fault(0), 1);
        Checks.due("fault() has no STATUS", x.status(), 1);
        x.days(0);
        Checks.due("without one", x.fault(0), 0);
        Checks.due("its place is forgotten", x.fault(1), NONE);
    }

    private static void told() {
        SaltStreet x = Checks.made("house a salt 30 sugar 2;house b gone;house c salt 9;house d gone;"
                + "quarrel p of a and b needs 1;cat t from a to c takes 4;"
                + "grocer g stock 50 price 3 sweet 4;grocer h stock 1 price 1;grocer i stock 0 price 1;");
        int[] want = {4, 1, 1, 3, 0, 0, 0, 0, 0, 10, 0};
        for (int what = 0; what <= 10; what++) {
            Checks.good(x, "told(" + what + ")", x.told(what), want[what]);
        }
        Checks.refused(x, "told(-1)", x.told(-1), 1);
        Checks.refused(x, "told(11)", x.told(11), 1);
        x.buy(0, 10, 0);
        x.strew(2, 5);
        Checks.good(x, "BOUGHT", x.told(5), 15);
        Checks.good(x, "purse()", x.purse(), -30);
        x.rain();
        Checks.good(x, "WASHED", x.told(6), 4 + 5 + 5);
        Checks.good(x, "RAINED today", x.told(10), 1);
        x.sweep(2);
        Checks.good(x, "SWEPT", x.told(7), 9);
        x.snow(3);
        x.night();
        Checks.good(x, "the DAY", x.told(4), 1);
        Checks.good(x, "MELTED", x.told(8), 3);
        Checks.good(x, "RAIN is over", x.told(10), 0);
    }

    private static void stepQuarrelGrocer() {
        SaltStreet x = Checks.made("house a salt 3 sugar 4;house b gone;house c;quarrel p of c and a needs 7;"
                + "quarrel q of b and c needs 8;grocer g stock 50 price 3 sweet 4;");
        x.snow(6);
        int[] want = {3, 4, 6, 1};
        for (int what = 0; what <= 3; what++) {
            Checks.good(x, "step(0, " + what + ")", x.step(0, what), want[what]);
            Checks.refused(x, "step(1, " + what + ")", x.step(1, what), 7);
        }
        Checks.good(x, "step(2, 3)", x.step(2, 3), 3);
        Checks.refused(x, "step(0, 4)", x.step(0, 4), 1);
        Checks.refused(x, "step(0, -1)", x.step(0, -1), 1);
        Checks.refused(x, "step(1, 4)", x.step(1, 4), 1);
        Checks.refused(x, "step(3, 0)", x.step(3, 0), 1);
        Checks.refused(x, "step(-1, 0)", x.step(-1, 0), 1);
        int[] quarrel = {2, 0, 7, 0, 0};
        for (int what = 0; what <= 4; what++) {
            Checks.good(x, "quarrel(0, " + what + ")", x.quarrel(0, what), quarrel[what]);
        }
        Checks.good(x, "quarrel(1, 0)", x.quarrel(1, 0), 1);
        Checks.refused(x, "quarrel(0, 5)", x.quarrel(0, 5), 1);
        Checks.refused(x, "quarrel(0, -1)", x.quarrel(0, -1), 1);
        Checks.refused(x, "quarrel(2, 0)", x.quarrel(2, 0), 1);
        Checks.refused(x, "quarrel(-1, 0)", x.quarrel(-1, 0), 1);
        int[] grocer = {50, 3, 4};
        for (int what = 0; what <= 2; what++) {
            Checks.good(x, "grocer(0, " + what + ")", x.grocer(0, what), grocer[what]);
        }
        Checks.refused(x, "grocer(0, 3)", x.grocer(0, 3), 1);
        Checks.refused(x, "grocer(0, -1)", x.grocer(0, -1), 1);
        Checks.refused(x, "grocer(1, 0)", x.grocer(1, 0), 1);
        Checks.refused(x, "grocer(-1, 0)", x.grocer(-1, 0), 1);
    }

    private static void aNewStreetForgets() {
        String text = "house a salt 9 sugar 1;house b salt 9;quarrel p of a and b needs 2;grocer g stock 9 price 9;";
        SaltStreet x = Checks.made(text);
        String fresh = Checks.seen(x);
        x.buy(0, 3, 0);
        x.snow(2);
        x.night();
        x.rain();
        x.sweep(0);
        Checks.days(x, "night;");
        Checks.street(x, text);
        Checks.due("all is new", Checks.seen(x), fresh);
        Checks.refused(x, "no DAYS", x.live(0), 6);
        Checks.street(x, "gone counts;rain washes 1;house a gone;house b salt 5;quarrel p of a and b needs 2;");
        Checks.street(x, "house a gone;house b salt 9;quarrel p of a and b needs 2;");
        Checks.good(x, "GONE doesn't count any more", x.hopeless(), 1);
        Checks.good(x, "RAIN WASHES 5 again", x.rain(), 5);
    }
}
