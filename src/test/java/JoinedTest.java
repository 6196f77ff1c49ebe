/** Promises 32 to 49: what is joined, what will be. */
public final class JoinedTest {
    public static void main(String[] args) {
        cat();
        reaches();
        chain();
        forecast();
        forecastAfterRain();
        soonest();
        longest();
        fullest();
        best();
        closest();
        level();
        thaw();
        wants();
        cliff();
        steps();
        value();
        beside();
        ghosts();
        Checks.finish();
    }

    private static void cat() {
        SaltStreet x = Checks.made("house a;house b;cat s from b to a takes 7;cat t from a to b takes 99;");
        int[][] want = {{1, 0, 7}, {0, 1, 99}};
        for (int c = 0; c < 2; c++) {
            for (int what = 0; what < 3; what++) {
                Checks.good(x, "cat(" + c + ", " + what + ")", x.cat(c, what), want[c][what]);
            }
        }
        Checks.refused(x, "cat(2, 0)", x.cat(2, 0), 1);
        Checks.refused(x, "cat(-1, 0)", x.cat(-1, 0), 1);
        Checks.refused(x, "cat(0, 3)", x.cat(0, 3), 1);
        Checks.refused(x, "cat(0, -1)", x.cat(0, -1), 1);
    }

    private static void reaches() {
        SaltStreet x = Checks.made("house a;house b;house c;house d;house e gone;house f;"
                + "cat s from c to d takes 1;cat t from b to c takes 1;cat u from a to b takes 1;cat v from d to b takes 1;");
        int[] want = {15, 14, 14, 14, -1, 32};
        for (int h = 0; h < 6; h++) {
            if (h == 4) {
                Checks.refused(x, "reaches(4)", x.reaches(4), 7);
            } else {
                Checks.good(x, "reaches(" + h + ")", x.reaches(h), want[h]);
            }
        }
        Checks.refused(x, "reaches(6)", x.reaches(6), 1);
        Checks.refused(x, "reaches(-1)", x.reaches(-1), 1);
    }

    private static void chain() {
        SaltStreet x = Checks.made("house a;house b;house c gone;house d;house e;house f;house g;house h;"
                + "quarrel p of g and h needs 1;quarrel q of d and e needs 1;quarrel r of c and d needs 1;"
                + "quarrel s of a and b needs 1;quarrel t of b and c needs 1;");
        Checks.good(x, "chain(0)", x.chain(0), 1);
        for (int q = 1; q < 5; q++) {
            Checks.good(x, "chain(" + q + ")", x.chain(q), 30);
        }
        Checks.refused(x, "chain(5)", x.chain(5), 1);
        Checks.refused(x, "chain(-1)", x.chain(-1), 1);
    }

    private static void forecast() {
        SaltStreet x = Checks.made("house a salt 50 sugar 9;house b;house c gone;cat t from a to b takes 20;");
        x.snow(5);
        String before = Checks.seen(x);
        int[][] salt = {{50, 0}, {45, 0}, {25, 15}, {5, 35}, {0, 40}};
        for (int n = 0; n < salt.length; n++) {
            Checks.good(x, "forecast(0, " + n + ", 0)", x.forecast(0, n, 0), salt[n][0]);
            Checks.good(x, "forecast(1, " + n + ", 0)", x.forecast(1, n, 0), salt[n][1]);
        }
        Checks.good(x, "SUGAR", x.forecast(1, 4, 1), 9);
        Checks.good(x, "SUGAR", x.forecast(0, 3, 1), 9);
        Checks.good(x, "SNOW", x.forecast(1, 1, 2), 5);
        Checks.good(x, "SNOW", x.forecast(1, 2, 2), 0);
        Checks.good(x, "60", x.forecast(1, 60, 0), 40);
        Checks.refused(x, "61", x.forecast(1, 61, 0), 1);
        Checks.refused(x, "-1", x.forecast(1, -1, 0), 1);
        Checks.refused(x, "what 3", x.forecast(1, 0, 3), 1);
        Checks.refused(x, "what -1", x.forecast(1, 0, -1), 1);
        Checks.refused(x, "forecast(3, 0, 0)", x.forecast(3, 0, 0), 1);
        Checks.refused(x, "forecast(-1, 0, 0)", x.forecast(-1, 0, 0), 1);
        Checks.refused(x, "GONE", x.forecast(2, 0, 0), 7);
        Checks.refused(x, "1 ahead of 7", x.forecast(2, 61, 0), 1);
        Checks.due("nothing has changed", Checks.seen(x), before);
    }

    private static void forecastAfterRain() {
        SaltStreet x = Checks.made("rain washes 0;house a salt 5;house b salt 5;quarrel p of a and b needs 5;"
                + "cat t from a to b takes 5;cat u from b to a takes 5;");
        x.night();
        Checks.good(x, "OVER", x.over(), 1);
        Checks.good(x, "soonest", x.soonest(0), 0);
        x.rain();
        Checks.good(x, "soonest though it RAINED", x.soonest(0), 0);
        SaltStreet y = Checks.made("rain washes 5;house a salt 9;house b salt 9;quarrel p of a and b needs 4;");
        y.rain();
        Checks.good(y, "what RAINED did", y.forecast(0, 3, 0), 4);
        Checks.good(y, "soonest", y.soonest(0), 1);
    }

    private static void soonest() {
        SaltStreet x = Checks.made("house a salt 70;house b;house c;quarrel p of a and b needs 9;"
                + "quarrel q of b and c needs 1;cat t from a to b takes 1;");
        Checks.good(x, "soonest(0)", x.soonest(0), 9);
        Checks.refused(x, "not in 60", x.soonest(1), 6);
        Checks.refused(x, "soonest(2)", x.soonest(2), 1);
        Checks.refused(x, "soonest(-1)", x.soonest(-1), 1);
        Checks.good(x, "told(4)", x.told(4), 0);
        SaltStreet y = Checks.made("house a salt 99;house b;quarrel p of a and b needs 60;cat t from a to b takes 1;");
        Checks.refused(y, "never both", y.soonest(0), 6);
        y.strew(0, 99);
        Checks.good(y, "just 60", y.soonest(0), 60);
        SaltStreet z = Checks.made("house a salt 199;house b;quarrel p of a and b needs 61;cat t from a to b takes 1;");
        Checks.refused(z, "61 are too many", z.soonest(0), 6);
    }

    private static void longest() {
        SaltStreet x = Checks.made("rain washes 0;house a salt 5;house b salt 5;house c;"
                + "quarrel p of a and b needs 3;quarrel q of b and c needs 3;quarrel r of c and a needs 1;");
        Checks.good(x, "of several the first", x.longest(), 0);
        x.night();
        Checks.good(x, "not OVER ones alone", x.longest(), 1);
        x.strew(2, 3);
        x.night();
        Checks.refused(x, "WAR", x.quarrel(3, 4), 1);
        Checks.good(x, "over()", x.over(), 1);
        x.strew(1, 1);
        x.strew(2, 1);
        x.night();
        Checks.refused(x, "all are OVER", x.longest(), 6);
        x.sweep(1);
        x.rain();
        x.night();
        Checks.good(x, "over()", x.over(), 4);
        Checks.good(x, "WAR", x.quarrel(0, 4), 1);
        Checks.good(x, "WAR", x.quarrel(1, 4), 3);
        Checks.good(x, "the longest WAR", x.longest(), 1);
        SaltStreet none = new SaltStreet();
        Checks.refused(none, "no QUARREL", none.longest(), 6);
    }

    private static void fullest() {
        SaltStreet x = Checks.made("house z gone;house a salt 5;house b sugar 6;house c salt 3 sugar 3;");
        Checks.good(x, "of several the first", x.fullest(), 2);
        x.strew(3, 1);
        Checks.good(x, "fullest()", x.fullest(), 3);
        x.snow(9);
        Checks.good(x, "SNOW is no matter", x.fullest(), 3);
        SaltStreet empty = Checks.made("house z gone;house a;house b;");
        Checks.good(empty, "empty STEPS", empty.fullest(), 1);
        SaltStreet gone = Checks.made("house z gone;");
        Checks.refused(gone, "no STEP", gone.fullest(), 6);
    }

    private static void best() {
        SaltStreet x = Checks.made("house a;house b salt 9;house c salt 9;house d gone;quarrel p of a and b needs 3;"
                + "quarrel q of a and c needs 3;quarrel r of b and c needs 9;quarrel s of a and d needs 1;");
        Checks.good(x, "best(3)", x.best(3), 0);
        Checks.refused(x, "nowhere any", x.best(2), 6);
        x.strew(0, 3);
        Checks.good(x, "of several the first", x.best(3), 0);
        x.strew(0, 3);
        Checks.refused(x, "one STEP alone is not enough", x.best(3), 6);
        x.strew(1, 3);
        Checks.good(x, "best(3)", x.best(3), 2);
        Checks.refused(x, "best(0)", x.best(0), 1);
        Checks.refused(x, "best(1000)", x.best(1000), 1);
        Checks.refused(x, "best(-1)", x.best(-1), 1);
        Checks.good(x, "best(999)", x.best(999), 2);
        x.snow(1);
        Checks.refused(x, "SNOW hides", x.best(999), 6);
        SaltStreet more = Checks.made("house a;house b;house c salt 9;house d salt 9;quarrel p of a and c needs 1;"
                + "quarrel q of b and c needs 1;quarrel r of b and d needs 1;");
        Checks.good(more, "two are more than one", more.best(2), 1);
        Checks.good(more, "one and one", more.best(1), 0);
        SaltStreet counts = Checks.made("gone counts;house a;house b gone;quarrel p of a and b needs 2;");
        Checks.good(counts, "GONE counts", counts.best(2), 0);
    }

    private static void closest() {
        SaltStreet x = Checks.made("house a salt 5;house b salt 2;house c gone;house d;quarrel p of a and b needs 2;"
                + "quarrel q of a and b needs 9;quarrel r of a and c needs 6;quarrel s of d and b needs 5;"
                + "quarrel t of d and a needs 8;");
        Checks.good(x, "closest()", x.closest(), 3);
        x.strew(0, 5);
        Checks.good(x, "of several the first", x.closest(), 1);
        x.snow(3);
        Checks.good(x, "SNOW counts as if it were away", x.closest(), 0);
        SaltStreet y = Checks.made("house a;house b gone;quarrel p of a and b needs 1;");
        Checks.refused(y, "HOPELESS", y.closest(), 6);
        SaltStreet z = Checks.made("house a salt 1;house b salt 1;quarrel p of a and b needs 1;");
        Checks.refused(z, "all have PEACE", z.closest(), 6);
    }

    private static void level() {
        SaltStreet x = Checks.made("house a salt 7;house b gone;house c salt 1 sugar 1;house d;");
        Checks.good(x, "9 on 3", x.level(), 4);
        x.strew(2, 1);
        Checks.good(x, "10 on 3", x.level(), 3);
        x.strew(2, 1);
        Checks.good(x, "11 on 3", x.level(), 3);
        x.strew(3, 4);
        Checks.good(x, "7 4 4", x.level(), 2);
        x.sweep(0);
        Checks.good(x, "0 4 4", x.level(), 2);
        x.strew(0, 3);
        Checks.good(x, "3 4 4", x.level(), 0);
        SaltStreet gone = Checks.made("house b gone;");
        Checks.good(gone, "no STEP", gone.level(), 0);
    }

    private static void thaw() {
        SaltStreet x = Checks.made("house a salt 99;house b;house c gone;cat t from a to b takes 2;");
        Checks.good(x, "no SNOW", x.thaw(0), 0);
        Checks.good(x, "no SNOW", x.thawAll(), 0);
        x.snow(5);
        Checks.good(x, "thaw(0)", x.thaw(0), 1);
        Checks.good(x, "thaw(1)", x.thaw(1), 4);
        Checks.good(x, "thawAll()", x.thawAll(), 4);
        Checks.refused(x, "GONE, ahead of 6", x.thaw(2), 7);
        Checks.refused(x, "thaw(3)", x.thaw(3), 1);
        Checks.refused(x, "thaw(-1)", x.thaw(-1), 1);
        x.sweep(0);
        Checks.refused(x, "not in 60", x.thaw(1), 6);
        Checks.refused(x, "not in 60", x.thawAll(), 6);
        SaltStreet y = Checks.made("house a salt 999;house b;cat t from a to b takes 1;");
        y.snow(59);
        Checks.good(y, "just 60", y.thaw(1), 60);
        Checks.good(y, "just 60", y.thawAll(), 60);
        y.snow(1);
        Checks.refused(y, "61", y.thaw(1), 6);
        Checks.refused(y, "61", y.thawAll(), 6);
    }

    private static void wants() {
        String row = "house a salt 5;house b salt 9;house c gone;house d;quarrel p of a and b needs 4;"
                + "quarrel q of b and a needs 3;quarrel r of a and c needs 2;quarrel s of d and b needs 2;";
        SaltStreet x = Checks.made(row);
        Checks.good(x, "wants(0)", x.wants(0), 2);
        Checks.good(x, "wants(1)", x.wants(1), 0);
        Checks.good(x, "wants(3)", x.wants(3), 8);
        Checks.refused(x, "wants(2)", x.wants(2), 7);
        Checks.refused(x, "wants(4)", x.wants(4), 1);
        Checks.refused(x, "wants(-1)", x.wants(-1), 1);
        SaltStreet y = Checks.made("gone counts;" + row);
        Checks.good(y, "GONE ones as they count", y.wants(0), 6);
    }

    private static void cliff() {
        SaltStreet x = Checks.made("house a salt 5;house b salt 2 sugar 9;house c gone;house d salt 90;house e salt 80;");
        Checks.good(x, "cliff()", x.cliff(), 10);
        x.strew(1, 6);
        Checks.good(x, "cliff()", x.cliff(), 12);
        SaltStreet y = Checks.made("house a salt 5;house c gone;house d salt 90;");
        Checks.good(y, "no such two", y.cliff(), 0);
    }

    private static void steps() {
        SaltStreet x = Checks.made("house a sugar 5;house b;house c gone;house d salt 3;house e;house f sugar 1 salt 0;"
                .replace("sugar 1 salt 0", "salt 0 sugar 1"));
        Checks.good(x, "SUGAR", x.steps(0), 2);
        Checks.good(x, "SNOW", x.steps(1), 0);
        Checks.good(x, "neither", x.steps(2), 2);
        x.snow(4);
        Checks.good(x, "SNOW", x.steps(1), 5);
        Checks.good(x, "neither", x.steps(2), 0);
        x.night();
        Checks.good(x, "SNOW", x.steps(1), 5);
        Checks.refused(x, "steps(3)", x.steps(3), 1);
        Checks.refused(x, "steps(-1)", x.steps(-1), 1);
    }

    private static void value() {
        SaltStreet x = Checks.made("house a salt 5 sugar 7;house b;house c gone;house d salt 21;"
                + "grocer g stock 10 price 4;grocer h stock 10 price 3;");
        Checks.good(x, "value(0)", x.value(0), 30 + 8);
        Checks.good(x, "value(1)", x.value(1), 0);
        Checks.refused(x, "GONE, ahead of 6", x.value(2), 7);
        Checks.refused(x, "not so many", x.value(3), 6);
        Checks.refused(x, "value(4)", x.value(4), 1);
        Checks.refused(x, "value(-1)", x.value(-1), 1);
        x.buy(1, 10, 1);
        Checks.good(x, "by the STOCKS now", x.value(1), 40);
    }

    private static void beside() {
        SaltStreet x = Checks.made("house a salt 5 sugar 7;house b gone;house c salt 1;house d salt 21;");
        int[] want = {0, 13, 21, 1};
        for (int h = 0; h < 4; h++) {
            Checks.good(x, "beside(" + h + ")", x.beside(h), want[h]);
        }
        Checks.refused(x, "beside(4)", x.beside(4), 1);
        Checks.refused(x, "beside(-1)", x.beside(-1), 1);
    }

    private static void ghosts() {
        SaltStreet x = Checks.made("house a gone;house b gone;house c;quarrel p of a and c needs 1;"
                + "quarrel q of b and a needs 1;quarrel r of c and b needs 1;quarrel s of a and b needs 2;");
        Checks.good(x, "ghosts()", x.ghosts(), 10);
    }
}
