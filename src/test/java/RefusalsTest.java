import java.util.Random;

/**
 * Part ==== 5: calls by draws, wild ones among them. No call throws; a refused one gives NONE or
 * false, and a twin that only hears the calls that were not refused ends up just alike.
 */
public final class RefusalsTest {
    private static final Random DRAW = new Random(63);
    private static final int CALLS = 59;
    private static final int[] EDGES = {Integer.MIN_VALUE, -2, -1, 0, 1, 2, 3, 4, 5, 7, 8, 9, 15, 16, 20, 60, 61, 99, 100,
        255, 256, 300, 301, 900, 901, 998, 999, 1000, 9998, 9999, 10000, 65535, 1 << 30, Integer.MAX_VALUE};
    private static final String[] STREETS = {
        "house a salt 9 sugar 3;house b salt 5;house c gone;house d;quarrel p of a and b needs 4;"
            + "quarrel q of b and c needs 2;quarrel r of d and a needs 3;cat t from a to d takes 2;"
            + "grocer g stock 99 price 3 sweet 5;",
        "gone counts;rain washes 2;house a gone;house b gone;house c salt 30;quarrel p of a and b needs 1;"
            + "quarrel q of c and a needs 9;grocer g stock 999 price 99;grocer h stock 0 price 1;",
        "house a salt 999 sugar 999;house b;cat t from a to b takes 99;quarrel p of a and b needs 99;",
        "", "house a;house a;", "house", "gone counts", "!"};
    private static final String[] DAYS = {"night;", "", "strew a 5;night;rain 8;when over p;sweep a;end;night;",
        "loop 99;loop 99;rain 3;snow 1;night;end;end;", "buy g 5 to b;night;stop;night;", "loop 3;", "night", "end;"};

    public static void main(String[] args) {
        for (int run = 0; run < 1500; run++) {
            twins();
        }
        theSumHolds();
        Checks.finish();
    }

    private static int some() {
        return DRAW.nextInt(3) == 0 ? EDGES[DRAW.nextInt(EDGES.length)] : DRAW.nextInt(6);
    }

    private static void twins() {
        SaltStreet one = new SaltStreet();
        SaltStreet twin = new SaltStreet();
        String first = STREETS[DRAW.nextInt(4)];
        Checks.street(one, first);
        Checks.street(twin, first);
        for (int i = 0; i < 60; i++) {
            int which = DRAW.nextInt(CALLS + 2);
            if (which >= CALLS) {
                text(one, twin, which == CALLS);
            } else {
                pair(one, twin, which);
            }
        }
        Checks.due("the twins", Checks.seen(one), Checks.seen(twin));
        Checks.due("their MARKS", one.back(), twin.back());
        Checks.due("behind back()", Checks.seen(one), Checks.seen(twin));
        Checks.due("their DAYS", one.live(7), twin.live(7));
        Checks.due("behind live()", Checks.seen(one), Checks.seen(twin));
    }

    private static void pair(SaltStreet one, SaltStreet twin, int which) {
        int[] a = {some(), some(), some(), some(), some()};
        boolean has = hasStatus(which);
        int before = one.status();
        long got = call(one, which, a);
        String told = "call " + which + " " + java.util.Arrays.toString(a);
        if (!has) {
            Checks.due("no STATUS of its own: " + told, one.status(), before);
            Checks.due("the twin: " + told, call(twin, which, a), got);
            return;
        }
        int status = one.status();
        Checks.due("a STATUS that can be: " + told, status >= 0 && status <= 9, true);
        if (status != 0) {
            Checks.due("refused: " + told, got, answersTruth(which) ? 0 : SaltStreet.NONE);
        }
        if (status == 0 || status == 9) {
            Checks.due("the twin: " + told, call(twin, which, a), got);
        }
    }

    private static void text(SaltStreet one, SaltStreet twin, boolean street) {
        String s = street ? STREETS[DRAW.nextInt(STREETS.length)] : DAYS[DRAW.nextInt(DAYS.length)];
        int n = DRAW.nextInt(8) == 0 ? some() : s.length();
        Checks.feed(one, s);
        Checks.feed(twin, s);
        int got = street ? one.street(n) : one.days(n);
        if (one.status() == 0 || one.status() == 9) {
            Checks.due("the twin's text " + s, street ? twin.street(n) : twin.days(n), got);
        } else {
            Checks.due("refused", got, SaltStreet.NONE);
        }
    }

    private static boolean hasStatus(int which) {
        return which > 4;
    }

    private static boolean answersTruth(int which) {
        return which >= 5 && which <= 10;
    }

    private static long call(SaltStreet x, int which, int[] a) {
        return which < 30 ? callFirst(x, which, a) : callSecond(x, which, a);
    }

    private static long truth(boolean b) {
        return b ? 1 : 0;
    }

    private static long callFirst(SaltStreet x, int which, int[] a) {
        return switch (which) {
            case 0 -> x.fault(1);
            case 1 -> x.top();
            case 2 -> x.bottom();
            case 3 -> x.feed(a[0], a[1], a[2], a[3], a[4]);
            case 4 -> x.fault(a[0]);
            case 5 -> truth(x.tray(a[0], a[1], a[2]));
            case 6 -> truth(x.write(a[0], a[1], a[2]));
            case 7 -> truth(x.pour(a[0], a[1], a[2], a[3], a[4]));
            case 8 -> truth(x.snow(a[0]));
            case 9 -> truth(x.found(a[0], a[1]));
            case 10 -> truth(x.odds(a[0], a[1], a[2]));
            case 11 -> x.read(a[0], a[1]);
            case 12 -> x.street(a[0]);
            case 13 -> x.days(a[0]);
            case 14 -> x.told(a[0]);
            case 15 -> x.purse();
            case 16 -> x.step(a[0], a[1]);
            case 17 -> x.quarrel(a[0], a[1]);
            case 18 -> x.grocer(a[0], a[1]);
            case 19 -> x.share(a[0], a[1]);
            case 20 -> x.whose(a[0], a[1]);
            case 21 -> x.nobodys(a[0]);
            case 22 -> x.peace();
            case 23 -> x.truce();
            case 24 -> x.over();
            case 25 -> x.hopeless();
            case 26 -> x.strew(a[0], a[1]);
            case 27 -> x.buy(a[0], a[1], a[2]);
            case 28 -> x.sweep(a[0]);
            default -> x.shovel(a[0], a[1], a[2]);
        };
    }

    private static long callSecond(SaltStreet x, int which, int[] a) {
        return switch (which) {
            case 30 -> x.rain();
            case 31 -> x.night();
            case 32 -> x.cat(a[0], a[1]);
            case 33 -> x.reaches(a[0]);
            case 34 -> x.chain(a[0]);
            case 35 -> x.forecast(a[0], a[1], a[2]);
            case 36 -> x.soonest(a[0]);
            case 37 -> x.longest();
            case 38 -> x.fullest();
            case 39 -> x.best(a[0]);
            case 40 -> x.closest();
            case 41 -> x.level();
            case 42 -> x.thaw(a[0]);
            case 43 -> x.thawAll();
            case 44 -> x.wants(a[0]);
            case 45 -> x.cliff();
            case 46 -> x.steps(a[0]);
            case 47 -> x.value(a[0]);
            case 48 -> x.beside(a[0]);
            case 49 -> x.ghosts() + x.most() * 1000L;
            case 50 -> x.lack(a[0]);
            case 51 -> x.lackAt(a[0], a[1]);
            case 52 -> x.freed(a[0]);
            case 53 -> x.cost(a[0]);
            case 54 -> x.dearest(a[0]);
            case 55 -> x.quiet(a[0], a[1], a[2]);
            case 56 -> x.who(a[0], a[1]);
            case 57 -> x.live(a[0]);
            default -> a[0] % 3 == 0 ? x.lived(a[1]) : a[0] % 3 == 1 ? x.mark() : x.back();
        };
    }

    /** What was told at first and BOUGHT is always what lies there, is WASHED, SWEPT, MELTED. */
    private static void theSumHolds() {
        for (int run = 0; run < 300; run++) {
            SaltStreet x = Checks.made(STREETS[run % 3]);
            long first = lying(x);
            for (int i = 0; i < 40; i++) {
                int which = 26 + DRAW.nextInt(6);
                call(x, which, new int[] {some(), some(), some(), 0, 0});
                x.snow(DRAW.nextInt(4));
                long gone = (long) x.told(6) + x.told(7) + x.told(8);
                Checks.due("the sum", lying(x) + gone, first + x.told(5));
            }
        }
    }

    private static long lying(SaltStreet x) {
        long sum = 0;
        for (int h = 0; h < x.told(0); h++) {
            int salt = x.step(h, 0);
            sum += x.status() == 0 ? salt + x.step(h, 1) : 0;
        }
        return sum;
    }
}
