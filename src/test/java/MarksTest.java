/** Promises 62 and 63: MARKS, to which all is taken back. */
public final class MarksTest {
    private static final String ROW = "house a salt 5;house b salt 5;quarrel p of a and b needs 3;"
            + "grocer g stock 9 price 4 sweet 8;";

    public static void main(String[] args) {
        howMany();
        allIsTakenBack();
        anotherStreet();
        whatIsNotOfTheStreet();
        Checks.finish();
    }

    private static void howMany() {
        SaltStreet x = Checks.made(ROW);
        Checks.refused(x, "back() without one", x.back(), 6);
        for (int i = 1; i <= 3; i++) {
            Checks.good(x, "mark()", x.mark(), i);
            x.strew(0, 1);
        }
        Checks.refused(x, "a fourth", x.mark(), 4);
        Checks.good(x, "SALT", x.step(0, 0), 8);
        for (int i = 2; i >= 0; i--) {
            Checks.good(x, "back()", x.back(), i);
            Checks.good(x, "SALT", x.step(0, 0), 5 + i);
        }
        Checks.refused(x, "no more", x.back(), 6);
        Checks.good(x, "mark() again", x.mark(), 1);
    }

    private static void allIsTakenBack() {
        SaltStreet x = Checks.made(ROW);
        Checks.days(x, "night;");
        x.buy(0, 3, 0);
        x.rain();
        String before = Checks.seen(x);
        x.mark();
        x.buy(0, 2, 1);
        x.night();
        x.snow(4);
        x.night();
        x.sweep(0);
        x.rain();
        Checks.days(x, "night;night;");
        x.back();
        Checks.due("all", Checks.seen(x), before);
        Checks.good(x, "the DAYS, too", x.live(0), 1);
    }

    private static void anotherStreet() {
        SaltStreet x = Checks.made(ROW);
        x.mark();
        String before = Checks.seen(x);
        Checks.days(x, "strew a 1;");
        x.mark();
        Checks.street(x, "gone counts;rain washes 1;house c salt 9;house d gone;house e;cat t from c to e takes 2;"
                + "quarrel r of c and d needs 1;quarrel s of c and e needs 1;");
        x.strew(0, 1);
        Checks.good(x, "MARKS stay", x.back(), 1);
        Checks.good(x, "RAIN WASHES 5", x.rain(), 10);
        Checks.good(x, "the DAYS of that STREET", x.live(0), 1);
        Checks.good(x, "SALT", x.step(0, 0), 1);
        Checks.good(x, "its NAMES", Checks.days(x, "strew b 1;buy g 1 to a;when over p;end;"), 3);
        Checks.good(x, "back()", x.back(), 0);
        Checks.refused(x, "no DAYS then", x.live(0), 6);
        SaltStreet y = Checks.made(ROW);
        Checks.due("the first", before, Checks.seen(y));
        y.mark();
        Checks.street(y, "house c gone;");
        y.back();
        Checks.due("all", Checks.seen(y), before);
    }

    private static void whatIsNotOfTheStreet() {
        SaltStreet x = Checks.made(ROW);
        x.mark();
        x.tray(0, 2, 1);
        x.write(0, 0, 77);
        x.buy(0, 2, 0);
        x.found(0, 1);
        Checks.days(x, "rain 16;");
        x.live(0);
        Checks.feed(x, "house z;");
        x.back();
        Checks.good(x, "TRAYS stay", x.read(0, 0), 77);
        Checks.fraction(x, "the FRACTION stays", 1, 7);
        Checks.good(x, "what live() did is told yet", x.lived(1), 1);
        Checks.good(x, "the tape stays", x.street(8), 0);
        Checks.good(x, "told(0)", x.told(0), 1);
    }
}
