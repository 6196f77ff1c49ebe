/** Promises 25 to 31: what is done on the STEPS, RAIN, SNOW, NIGHT. */
public final class DoneTest {
    public static void main(String[] args) {
        strew();
        strewToTheBrim();
        buy();
        buyRefused();
        sweep();
        shovel();
        shovelRefused();
        rain();
        snow();
        catsByNight();
        snowByNight();
        theOrderOfANight();
        lastDay();
        Checks.finish();
    }

    private static void strew() {
        SaltStreet x = Checks.made("house a salt 3 sugar 4;house b gone;");
        Checks.good(x, "strew(0, 1)", x.strew(0, 1), 4);
        Checks.good(x, "strew(0, 999)", x.strew(0, 999), 1003);
        Checks.good(x, "SUGAR", x.step(0, 1), 4);
        Checks.good(x, "BOUGHT", x.told(5), 1000);
        Checks.good(x, "for nothing", x.purse(), 0);
        Checks.refused(x, "strew(0, 0)", x.strew(0, 0), 1);
        Checks.refused(x, "strew(0, 1000)", x.strew(0, 1000), 1);
        Checks.refused(x, "strew(0, -5)", x.strew(0, -5), 1);
        Checks.refused(x, "strew(2, 1)", x.strew(2, 1), 1);
        Checks.refused(x, "strew(-1, 1)", x.strew(-1, 1), 1);
        Checks.refused(x, "strew on a GONE one", x.strew(1, 1), 7);
        Checks.refused(x, "1 ahead of 7", x.strew(1, 0), 1);
        Checks.good(x, "SALT", x.step(0, 0), 1003);
    }

    private static void strewToTheBrim() {
        SaltStreet x = Checks.made("house a sugar 9;grocer g stock 5 price 1;");
        for (int i = 0; i < 10; i++) {
            x.strew(0, 990);
        }
        Checks.good(x, "up to 9,999", x.strew(0, 90), 9990);
        Checks.refused(x, "one too many", x.strew(0, 1), 4);
        Checks.refused(x, "one too many bought", x.buy(0, 1, 0), 4);
        Checks.refused(x, "4 ahead of 6", x.buy(0, 6, 0), 4);
        Checks.good(x, "SALT", x.step(0, 0), 9990);
    }

    private static void buy() {
        SaltStreet x = Checks.made("house a salt 1;house b;grocer g stock 40 price 7 sweet 5;grocer h stock 999 price 99;"
                + "grocer i stock 999 price 1 sweet 16;");
        Checks.good(x, "SUGAR is rounded down", x.buy(0, 10, 0), 3);
        Checks.good(x, "SALT", x.step(0, 0), 8);
        Checks.good(x, "SUGAR", x.step(0, 1), 3);
        Checks.good(x, "STOCK", x.grocer(0, 0), 30);
        Checks.good(x, "purse()", x.purse(), -70);
        Checks.good(x, "BOUGHT", x.told(5), 10);
        Checks.good(x, "all it has", x.buy(1, 999, 1), 0);
        Checks.good(x, "purse()", x.purse(), -70 - 999 * 99);
        Checks.good(x, "all SUGAR", x.buy(2, 999, 1), 999);
        SaltStreet y = Checks.made("house a;grocer g stock 1 price 1;");
        y.buy(0, 1, 0);
        Checks.good(y, "a PURSE of -1", y.purse(), -1);
    }

    private static void buyRefused() {
        SaltStreet x = Checks.made("house a;house b gone;grocer g stock 5 price 1;");
        String before = Checks.seen(x);
        Checks.refused(x, "no such GROCER", x.buy(1, 1, 0), 1);
        Checks.refused(x, "no such GROCER", x.buy(-1, 1, 0), 1);
        Checks.refused(x, "none", x.buy(0, 0, 0), 1);
        Checks.refused(x, "1000", x.buy(0, 1000, 0), 1);
        Checks.refused(x, "no such HOUSE", x.buy(0, 1, 2), 1);
        Checks.refused(x, "no such HOUSE", x.buy(0, 1, -1), 1);
        Checks.refused(x, "the STOCK has not so many", x.buy(0, 6, 0), 6);
        Checks.refused(x, "6 ahead of 7", x.buy(0, 6, 1), 6);
        Checks.refused(x, "GONE", x.buy(0, 5, 1), 7);
        Checks.due("nothing has changed", Checks.seen(x), before);
        Checks.good(x, "all of it", x.buy(0, 5, 0), 0);
        Checks.refused(x, "there is no more", x.buy(0, 1, 0), 6);
    }

    private static void sweep() {
        SaltStreet x = Checks.made("house a salt 3 sugar 4;house b gone;house c salt 2;");
        x.snow(2);
        Checks.good(x, "sweep(0)", x.sweep(0), 7);
        Checks.good(x, "SALT", x.step(0, 0), 0);
        Checks.good(x, "SUGAR", x.step(0, 1), 0);
        Checks.good(x, "SNOW", x.step(0, 2), 2);
        Checks.good(x, "SALT of another", x.step(2, 0), 2);
        Checks.good(x, "SWEPT", x.told(7), 7);
        Checks.good(x, "sweep(0) again", x.sweep(0), 0);
        Checks.refused(x, "sweep(1)", x.sweep(1), 7);
        Checks.refused(x, "sweep(3)", x.sweep(3), 1);
        Checks.refused(x, "sweep(-1)", x.sweep(-1), 1);
    }

    private static void shovel() {
        SaltStreet x = Checks.made("house a salt 3 sugar 4;house b salt 1 sugar 1;");
        Checks.good(x, "SALT first", x.shovel(0, 1, 5), 3);
        Checks.good(x, "SALT there", x.step(1, 0), 4);
        Checks.good(x, "SUGAR there", x.step(1, 1), 3);
        Checks.good(x, "SALT here", x.step(0, 0), 0);
        Checks.good(x, "SUGAR here", x.step(0, 1), 2);
        Checks.good(x, "SALT alone", x.shovel(1, 0, 2), 2);
        Checks.good(x, "SALT there", x.step(0, 0), 2);
        Checks.good(x, "all of it", x.shovel(0, 1, 4), 2);
        for (int i = 0; i < 10; i++) {
            x.strew(1, 900);
            x.strew(0, 900);
        }
        Checks.good(x, "above 9,999 it may", x.shovel(0, 1, 999), 999);
        Checks.good(x, "SALT there", x.step(1, 0), 9000 + 4 + 999);
        Checks.good(x, "BOUGHT", x.told(5), 18000);
    }

    private static void shovelRefused() {
        SaltStreet x = Checks.made("house a salt 3 sugar 4;house b;house c gone;");
        String before = Checks.seen(x);
        Checks.refused(x, "one and itself", x.shovel(0, 0, 1), 1);
        Checks.refused(x, "shovel(-1, 0, 1)", x.shovel(-1, 0, 1), 1);
        Checks.refused(x, "shovel(3, 0, 1)", x.shovel(3, 0, 1), 1);
        Checks.refused(x, "shovel(0, 3, 1)", x.shovel(0, 3, 1), 1);
        Checks.refused(x, "shovel(0, -1, 1)", x.shovel(0, -1, 1), 1);
        Checks.refused(x, "shovel(0, 1, 0)", x.shovel(0, 1, 0), 1);
        Checks.refused(x, "shovel(0, 1, 1000)", x.shovel(0, 1, 1000), 1);
        Checks.refused(x, "it has not so many", x.shovel(0, 1, 8), 6);
        Checks.refused(x, "6 ahead of 7", x.shovel(0, 2, 8), 6);
        Checks.refused(x, "a GONE one has none", x.shovel(2, 0, 1), 6);
        Checks.refused(x, "onto a GONE one", x.shovel(0, 2, 7), 7);
        Checks.due("nothing has changed", Checks.seen(x), before);
    }

    private static void rain() {
        SaltStreet x = Checks.made("rain washes 4;house a salt 3 sugar 40;house b salt 9;house c gone;house d;");
        Checks.good(x, "rain()", x.rain(), 43 + 4);
        Checks.good(x, "SALT", x.step(0, 0), 0);
        Checks.good(x, "SUGAR", x.step(0, 1), 0);
        Checks.good(x, "SALT", x.step(1, 0), 5);
        Checks.good(x, "twice a day", x.rain(), 4);
        Checks.good(x, "WASHED", x.told(6), 51);
        Checks.good(x, "RAINED", x.told(10), 1);
        x.night();
        Checks.good(x, "RAINED", x.told(10), 0);
        x.snow(5);
        Checks.good(x, "under SNOW, too", x.rain(), 1);
    }

    private static void snow() {
        SaltStreet x = Checks.made("house a;house b gone;house c;");
        Checks.good(x, "snow(0)", x.snow(0));
        Checks.good(x, "SNOW", x.step(0, 2), 0);
        Checks.good(x, "snow(60)", x.snow(60));
        Checks.good(x, "snow(39)", x.snow(39));
        Checks.good(x, "SNOW", x.step(2, 2), 99);
        Checks.good(x, "snow(99)", x.snow(99));
        Checks.good(x, "99 at most", x.step(0, 2), 99);
        Checks.refused(x, "snow(100)", x.snow(100), 1);
        Checks.refused(x, "snow(-1)", x.snow(-1), 1);
        Checks.good(x, "steps(1)", x.steps(1), 2);
    }

    private static void catsByNight() {
        SaltStreet x = Checks.made("house a salt 3 sugar 4;house b;house c;cat s from a to b takes 5;"
                + "cat t from b to c takes 4;cat u from a to c takes 9;");
        Checks.good(x, "night()", x.night(), 1);
        int[][] want = {{0, 0}, {0, 1}, {3, 3}};
        for (int h = 0; h < 3; h++) {
            Checks.good(x, "SALT of " + h, x.step(h, 0), want[h][0]);
            Checks.good(x, "SUGAR of " + h, x.step(h, 1), want[h][1]);
        }
        SaltStreet y = Checks.made("house a salt 3;house b;cat t from a to b takes 1;");
        y.snow(1);
        y.night();
        Checks.good(y, "under SNOW it takes none", y.step(1, 0), 0);
        Checks.good(y, "SALT melts it", y.step(0, 0), 2);
        Checks.good(y, "SNOW", y.step(0, 2), 0);
        Checks.good(y, "SNOW where no SALT is", y.step(1, 2), 1);
        y.night();
        Checks.good(y, "the other STEP's SNOW is no hindrance, but melts it", y.step(1, 0), 0);
        Checks.good(y, "SNOW", y.step(1, 2), 0);
        Checks.good(y, "SALT", y.step(0, 0), 1);
    }

    private static void snowByNight() {
        SaltStreet x = Checks.made("house a salt 3 sugar 9;house b salt 30;");
        x.snow(10);
        x.night();
        Checks.good(x, "SALT", x.step(0, 0), 0);
        Checks.good(x, "SUGAR melts none", x.step(0, 1), 9);
        Checks.good(x, "SNOW", x.step(0, 2), 7);
        Checks.good(x, "SALT", x.step(1, 0), 20);
        Checks.good(x, "SNOW", x.step(1, 2), 0);
        Checks.good(x, "MELTED", x.told(8), 13);
    }

    private static void theOrderOfANight() {
        SaltStreet x = Checks.made("house a salt 9;house b salt 9;house c;quarrel p of a and b needs 3;"
                + "cat t from a to c takes 7;");
        Checks.good(x, "PEACE by day", x.peace(), 1);
        x.night();
        Checks.good(x, "CATS come ahead of QUARRELS", x.over(), 0);
        SaltStreet y = Checks.made("house a salt 9;house b salt 9;quarrel p of a and b needs 3;");
        y.snow(6);
        Checks.good(y, "no PEACE under SNOW", y.peace(), 0);
        y.night();
        Checks.good(y, "SNOW melts ahead of QUARRELS", y.over(), 1);
        SaltStreet z = Checks.made("rain washes 1;house a salt 9;house b salt 9;quarrel p of a and b needs 8;");
        z.rain();
        z.night();
        Checks.good(z, "PEACE though it RAINED", z.over(), 1);
        z.rain();
        z.night();
        Checks.good(z, "RAIN starts it again", z.over(), 0);
    }

    private static void lastDay() {
        SaltStreet x = Checks.made("house a salt 5;house b salt 5;quarrel p of a and b needs 9;");
        for (int day = 1; day <= 999; day++) {
            Checks.due("night()", x.night(), day);
        }
        Checks.good(x, "WAR", x.quarrel(0, 4), 999);
        String before = Checks.seen(x);
        Checks.refused(x, "night() at DAY 999", x.night(), 4);
        Checks.due("nothing has changed", Checks.seen(x), before);
    }
}
