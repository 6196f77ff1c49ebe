import java.util.HashSet;
import java.util.Set;

/** Part ==== 4, sentence by sentence: the edges of DAYS, draws, MARKS and FRACTIONS. */
public final class DaysEdgesTest {
    private static final String ROW = "rain washes 2;house a salt 5;house b salt 5;house c gone;house d;"
            + "quarrel p of a and b needs 3;quarrel q of a and c needs 1;cat k from a to d takes 1;"
            + "grocer g stock 20 price 2 sweet 8;";

    public static void main(String[] args) {
        aTextOf300();
        noDaysAndEmptyDays();
        everyByteAlone();
        everyNumber();
        everyName();
        endsAndBeginnings();
        thirtySteps();
        withinThreeOthers();
        theLeastKind();
        cutAnywhere();
        theOldDaysStay();
        strewnTo9999();
        boughtTo9999();
        theStockHasSoMany();
        nightAtDay999();
        whatLies();
        overAndTruce();
        theThingsNamed();
        loopsAsOften();
        threeHundredSteps();
        stepsThatCount();
        drawsBySixteen();
        seeds();
        livedTells();
        oddsOfSeeds();
        marksAtMostThree();
        marksKeepAll();
        fractions();
        Checks.finish();
    }

    private static SaltStreet lived(String street, String days, int done) {
        SaltStreet x = Checks.made(street);
        Checks.days(x, days);
        Checks.due("status() behind days " + days, x.status(), 0);
        Checks.good(x, "live through " + days, x.live(0), done);
        return x;
    }

    // "DAYS are a TEXT of at most 300 bytes"; promise 11: "(1: above 300, too; 9)"
    private static void aTextOf300() {
        String text = "night;" + " ".repeat(288) + "night;";
        SaltStreet x = Checks.made(ROW);
        Checks.good(x, "300 bytes", Checks.days(x, text), 2);
        Checks.feed(x, text + " ");
        Checks.refused(x, "301 bytes", x.days(301), 1);
        Checks.refused(x, "320 bytes", x.days(320), 1);
        Checks.refused(x, "more than the tape has", x.days(321), 1);
        Checks.due("STATUS 1 has no FAULT", x.fault(0), 0);
        Checks.good(x, "the tape is there yet", x.days(300), 2);
        Checks.refused(x, "the tape is empty then", x.days(1), 1);
        Checks.faultyDays(ROW, "night;" + " ".repeat(293) + "!", 1, 299);
        Checks.faultyDays(ROW, "loop 1;" + " ".repeat(293), 2, 300);
    }

    // "(none at first)"; "there are no DAYS' TEXT"; "{STEP}": any number of times, none, too
    private static void noDaysAndEmptyDays() {
        SaltStreet x = new SaltStreet();
        Checks.refused(x, "none at first", x.live(0), 6);
        Checks.refused(x, "none at first", x.odds(0, 0, 1), 6);
        Checks.good(x, "DAYS of no bytes", x.days(0), 0);
        Checks.good(x, "no STEPS are done", x.live(0), 0);
        Checks.good(x, "none is left", x.lived(4), 0);
        Checks.good(x, "the empty set", x.odds(0, 0, 1));
        Checks.good(x, "DAYS of blanks", Checks.days(x, " \n \n"), 0);
        Checks.good(x, "live", x.live(9999), 0);
        Checks.good(x, "a STREET", Checks.street(x, ROW), 2);
        Checks.refused(x, "none behind a STREET", x.live(0), 6);
        Checks.refused(x, "none behind a STREET", x.odds(0, 0, 1), 6);
    }

    private static void everyByteAlone() {
        String tokens = "abcdefghijklmnopqrstuvwxyz0123456789;<>=";
        SaltStreet x = Checks.made(ROW);
        for (int c = 0; c < 256; c++) {
            int got = Checks.days(x, "night;" + (char) c);
            if (c == 10 || c == 32) {
                Checks.good(x, "a blank " + c, got, 1);
            } else {
                Checks.refused(x, "byte " + c, got, 9);
                Checks.due("the FAULT of byte " + c, x.fault(0), tokens.indexOf(c) >= 0 ? 2 : 1);
                Checks.due("its place", x.fault(1), 6);
            }
            if (c % 64 == 63) {
                x = Checks.made(ROW);
            }
        }
    }

    // Each NUMBER of a STEP: the last that can be and the first that can't, on both sides
    private static void everyNumber() {
        everyNumber("strew a #;", "", 1, 999);
        everyNumber("buy g # to a;", "", 1, 999);
        everyNumber("rain #;", "", 0, 16);
        everyNumber("snow #;", "", 0, 99);
        everyNumber("loop #;", "end;", 1, 99);
        everyNumber("when lies a < #;", "end;", 0, 9999);
        everyNumber("when lies a > #;", "end;", 0, 9999);
        everyNumber("when lies a = #;", "end;", 0, 9999);
    }

    private static void everyNumber(String step, String tail, int least, int greatest) {
        int place = step.indexOf('#');
        int[] fine = {least, least + 1, greatest - 1, greatest};
        int[] wrong = {least - 1, greatest + 1};
        for (int v : fine) {
            SaltStreet x = Checks.made(ROW);
            Checks.good(x, step + v, Checks.days(x, step.replace("#", String.valueOf(v)) + tail), 1);
        }
        for (int v : wrong) {
            if (v >= 0 && v <= 9999) {
                Checks.faultyDays(ROW, step.replace("#", String.valueOf(v)) + tail, 4, place);
            }
        }
        Checks.faultyDays(ROW, step.replace("#", "10000") + tail, 1, place);
        Checks.faultyDays(ROW, step.replace("#", "00001") + tail, 1, place);
        Checks.faultyDays(ROW, step.replace("#", "-1") + tail, 1, place);
        Checks.faultyDays(ROW, step.replaceAll("# ?", "") + tail, 2, place);
        Checks.faultyDays(ROW, step.replace("#", "a") + tail, 2, place);
        Checks.faultyDays(ROW, step.replace("#", "aaaaaaaaa") + tail, 2, place);
        Checks.faultyDays(ROW, step.replace("#", "1aaaaaaaaa") + tail, 2, place + 1);
        Checks.faultyDays(ROW, step.replace("#", "1 1") + tail, 2, place + 2);
    }

    // "3 a NAME that is no such one"; "5 a HOUSE that is GONE (strew, buy, sweep, lies: at its NAME)"
    private static void everyName() {
        String[] heads = {"strew ", "buy g 1 to ", "sweep ", "when lies ", "when over ", "when truce ", "buy "};
        String[] things = {"a", "a", "a", "a", "p", "p", "g"};
        String[] tails = {" 1;", ";", ";", "=1;end;", ";end;", ";end;", " 1 to a;"};
        String[] names = {"a", "c", "p", "q", "k", "g", "z"};
        for (int i = 0; i < heads.length; i++) {
            for (String name : names) {
                String text = heads[i] + name + tails[i];
                boolean gone = things[i].equals("a") && name.equals("c");
                boolean other = things[i].equals("p") && name.equals("q");
                if (name.equals(things[i]) || other) {
                    SaltStreet x = Checks.made(ROW);
                    Checks.good(x, text, Checks.days(x, text), 1);
                } else {
                    Checks.faultyDays(ROW, text, gone ? 5 : 3, heads[i].length());
                }
            }
            Checks.faultyDays(ROW, heads[i] + "night", 2, heads[i].length());
            Checks.faultyDays(ROW, heads[i] + "aaaaaaaaa", 2, heads[i].length());
            Checks.faultyDays(ROW, heads[i] + "1", 2, heads[i].length());
        }
    }

    // "(an end without a beginning; the text's end ahead of an end: 2)"
    private static void endsAndBeginnings() {
        Checks.faultyDays(ROW, "end;", 2, 0);
        Checks.faultyDays(ROW, "night;end;", 2, 6);
        Checks.faultyDays(ROW, "loop 1;end;end;", 2, 11);
        Checks.faultyDays(ROW, "loop 1;", 2, 7);
        Checks.faultyDays(ROW, "loop 1;  ", 2, 9);
        Checks.faultyDays(ROW, "loop 1;loop 1;end;", 2, 18);
        Checks.faultyDays(ROW, "when over p;night;", 2, 18);
        Checks.faultyDays(ROW, "loop 1;end", 2, 10);
        Checks.faultyDays(ROW, "loop 1;end night;", 2, 11);
        SaltStreet x = Checks.made(ROW);
        Checks.good(x, "none within", Checks.days(x, "loop 1;end;when over p;end;"), 2);
        Checks.refused(x, "three are open", Checks.days(x, "loop 1;loop 1;loop 1;"), 9);
        Checks.refused(x, "none is open in another text", Checks.days(x, "end;"), 9);
        Checks.refused(x, "three are open", Checks.days(x, "loop 1;loop 1;loop 1;"), 9);
        Checks.good(x, "three more may be", Checks.days(x, "loop 1;loop 1;loop 1;end;end;end;"), 3);
    }

    // "6 a 31st STEP of it (at its WORD; end is none)"
    private static void thirtySteps() {
        String thirty = "stop;".repeat(30);
        SaltStreet x = Checks.made(ROW);
        Checks.good(x, "thirty", Checks.days(x, thirty), 30);
        String[] words = {"strew", "buy", "sweep", "rain", "snow", "night", "when", "loop", "stop"};
        for (String word : words) {
            Checks.faultyDays(ROW, thirty + word, 6, 150);
            Checks.faultyDays(ROW, thirty + "\n\n" + word + " !", 6, 152);
        }
        Checks.faultyDays(ROW, thirty + "end;", 2, 150);
        Checks.faultyDays(ROW, thirty + "house", 2, 150);
        Checks.faultyDays(ROW, thirty + "!", 1, 150);
        String pairs = "loop 1;night;end;".repeat(15);
        SaltStreet y = Checks.made(ROW);
        Checks.good(y, "thirty with ends", Checks.days(y, pairs), 30);
        Checks.faultyDays(ROW, pairs + "stop;", 6, pairs.length());
        String open = "stop;".repeat(27) + "loop 1;loop 1;loop 1;";
        SaltStreet z = Checks.made(ROW);
        Checks.good(z, "ends behind the thirtieth", Checks.days(z, open + "end;end;end;"), 30);
        Checks.faultyDays(ROW, open + "end;end;end;stop", 6, open.length() + 12);
        Checks.faultyDays(ROW, open + "end;end;", 2, open.length() + 8);
        SaltStreet w = Checks.made(ROW);
        Checks.good(w, "27 with ends", Checks.days(w, "loop 1;end;".repeat(27)), 27);
    }

    // "7 a when, loop within three others (at its WORD)"
    private static void withinThreeOthers() {
        String[] heads = {"loop 1;", "when over p;"};
        for (int kinds = 0; kinds < 16; kinds++) {
            StringBuilder s = new StringBuilder();
            int place = 0;
            for (int i = 0; i < 4; i++) {
                place = s.length();
                s.append(heads[kinds >> i & 1]);
            }
            Checks.faultyDays(ROW, s + "end;end;end;end;", 7, place);
            String three = s.substring(0, place);
            SaltStreet x = Checks.made(ROW);
            Checks.good(x, "three deep", Checks.days(x, three + "night;end;" + heads[kinds >> 3] + "end;end;end;"), 5);
            Checks.faultyDays(ROW, three + "end;" + heads[0] + heads[1], 7, place + 4 + heads[0].length());
        }
        Checks.faultyDays(ROW, "loop 1;loop 1;loop 1;loop", 7, 21);
        Checks.faultyDays(ROW, "loop 1;loop 1;loop 1;when !", 7, 21);
        SaltStreet y = Checks.made(ROW);
        Checks.good(y, "one behind the other", Checks.days(y, "loop 1;end;loop 1;end;loop 1;end;loop 1;end;"), 4);
    }

    // "of one TOKEN the least kind"
    private static void theLeastKind() {
        String full = "stop;".repeat(27) + "loop 1;loop 1;loop 1;";
        Checks.faultyDays(ROW, full + "loop 1;", 6, full.length());
        Checks.faultyDays(ROW, full + "when over p;", 6, full.length());
        Checks.faultyDays(ROW, "strew z 0;", 3, 6);
        Checks.faultyDays(ROW, "strew c 0;", 5, 6);
        Checks.faultyDays(ROW, "strew a 0;strew c 1;", 4, 8);
        Checks.faultyDays(ROW, "buy g 1000 to c;", 4, 6);
        Checks.faultyDays(ROW, "buy z 1000 to c;", 3, 4);
        Checks.faultyDays(ROW, "night;12345;", 1, 6);
    }

    private static void cutAnywhere() {
        String text = "strew a 12 ; buy g 13 to b ; sweep d ; rain 12 ; snow 34 ; night ; when over p ; end ; when truce q ;"
                + " loop 56 ; stop ; end ; end ; when lies d < 7890 ; end ;\n";
        Set<Integer> whole = new HashSet<>();
        int depth = 0;
        int steps = 0;
        int[] stepsAt = new int[text.length() + 1];
        String[] tokens = text.split("(?<= )|(?<=\n)");
        int at = 0;
        whole.add(0);
        for (String token : tokens) {
            String bare = token.trim();
            depth += bare.equals("when") || bare.equals("loop") ? 1 : bare.equals("end") ? -1 : 0;
            boolean step = Set.of("strew", "buy", "sweep", "rain", "snow", "night", "when", "loop", "stop").contains(bare);
            steps += step ? 1 : 0;
            for (int n = at + 1; n <= at + token.length(); n++) {
                stepsAt[n] = steps;
                if (bare.equals(";") && depth == 0) {
                    whole.add(n);
                }
            }
            for (int n = at + 1; n <= at + token.length(); n++) {
                SaltStreet x = Checks.made(ROW);
                Checks.feed(x, text);
                int got = x.days(n);
                boolean cut = n < at + bare.length() && Character.isLetter(bare.charAt(0));
                if (whole.contains(n)) {
                    Checks.good(x, "cut at " + n, got, stepsAt[n]);
                } else {
                    Checks.refused(x, "cut at " + n, got, 9);
                    Checks.due("the FAULT of DAYS cut at " + n, x.fault(0), 2);
                    Checks.due("its place, cut at " + n, x.fault(1), cut ? at : n);
                }
            }
            at += token.length();
        }
        Checks.due("all of it was cut", at, text.length());
    }

    // Promise 11: "9", and part ==== 5: "changes nothing else (but .. the tape, and what fault() tells)"
    private static void theOldDaysStay() {
        String[] texts = {"night;!", "night", "sweep z;", "snow 100;", "sweep c;", "stop;".repeat(31),
            "loop 1;loop 1;loop 1;loop 1;"};
        for (int i = 0; i < texts.length; i++) {
            SaltStreet x = Rich.make();
            SaltStreet twin = Rich.make();
            Checks.refused(x, "the tape is used up", x.days(1), 9);
            Checks.refused(twin, "the tape is used up", twin.days(1), 9);
            Checks.refused(x, "days " + texts[i], Checks.days(x, texts[i]), 9);
            Checks.due("the FAULT", x.fault(0), i + 1);
            Checks.refused(x, "the same FAULT again", Checks.days(x, "h"), 9);
            Checks.feed(x, "house z salt 9;");
            Checks.feed(twin, "house z salt 9;");
            Checks.due("all else stays", Rich.all(x), Rich.all(twin));
        }
    }

    // "To more than 9,999 grains in all on a STEP nothing is strewn or bought (CATS may bring more): MISSED"
    private static void strewnTo9999() {
        String street = "house a salt 5 sugar 4;house b salt 99;cat k from b to a takes 99;";
        SaltStreet x = lived(street, "loop 10;strew a 999;end;", 11);
        Checks.good(x, "up to 9,999", x.step(0, 0), 9995);
        Checks.good(x, "none is MISSED", x.lived(0), 0);
        Checks.days(x, "strew a 1;");
        Checks.good(x, "one more", x.live(0), 1);
        Checks.good(x, "is MISSED", x.lived(0), 1);
        Checks.good(x, "SALT", x.step(0, 0), 9995);
        Checks.good(x, "BOUGHT", x.told(5), 9990);
        Checks.days(x, "night;strew a 1;sweep a;strew a 999;");
        Checks.good(x, "CATS bring more", x.live(0), 4);
        Checks.good(x, "MISSED", x.lived(0), 1);
        Checks.good(x, "SWEPT", x.told(7), 9999 + 99);
        Checks.good(x, "SALT", x.step(0, 0), 999);
    }

    private static void boughtTo9999() {
        String street = "house a salt 5 sugar 4;grocer g stock 999 price 1 sweet 8;";
        SaltStreet x = lived(street, "loop 9;strew a 999;end;strew a 998;buy g 1 to a;", 12);
        Checks.good(x, "up to 9,999", x.nobodys(0), 9999);
        Checks.good(x, "none is MISSED", x.lived(0), 0);
        Checks.days(x, "buy g 1 to a;buy g 999 to a;");
        Checks.good(x, "one more", x.live(0), 2);
        Checks.good(x, "both are MISSED", x.lived(0), 2);
        Checks.good(x, "STOCK", x.grocer(0, 0), 998);
        Checks.good(x, "purse()", x.purse(), -1);
        Checks.good(x, "9,999 yet", x.nobodys(0), 9999);
    }

    // "buy from a GROCER onto a STEP (1 to 999): if its STOCK has so many, else MISSED"
    private static void theStockHasSoMany() {
        SaltStreet x = lived(ROW, "buy g 21 to d;", 1);
        Checks.good(x, "21 of 20", x.lived(0), 1);
        Checks.good(x, "STOCK", x.grocer(0, 0), 20);
        Checks.good(x, "purse()", x.purse(), 0);
        SaltStreet y = lived(ROW, "buy g 20 to d;buy g 1 to d;buy g 999 to d;", 3);
        Checks.good(y, "20 of 20, then none", y.lived(0), 2);
        Checks.good(y, "SUGAR", y.step(3, 1), 10);
        Checks.good(y, "STOCK", y.grocer(0, 0), 0);
    }

    // "night at DAY 999: MISSED"
    private static void nightAtDay999() {
        SaltStreet x = lived(ROW, "loop 3;loop 99;night;end;end;", 300);
        Checks.good(x, "cut at 300", x.lived(4), 1);
        for (int i = 0; i < 2; i++) {
            x.live(0);
        }
        Checks.good(x, "DAY 888", x.told(4), 888);
        Checks.days(x, "loop 99;night;end;");
        x.live(0);
        Checks.good(x, "DAY 987", x.told(4), 987);
        Checks.days(x, "loop 12;night;end;");
        x.live(0);
        Checks.good(x, "DAY 999", x.told(4), 999);
        Checks.good(x, "none is MISSED", x.lived(0), 0);
        Checks.days(x, "rain 16;snow 3;night;night;");
        Checks.good(x, "live", x.live(0), 4);
        Checks.good(x, "both are MISSED", x.lived(0), 2);
        Checks.good(x, "it RAINS yet", x.told(10), 1);
        Checks.good(x, "SNOW lies yet", x.step(0, 2), 3);
    }

    private static boolean holds(SaltStreet x, String test) {
        int before = x.step(1, 0);
        Checks.days(x, "when " + test + ";strew b 1;end;");
        Checks.due("status() behind days " + test, x.status(), 0);
        x.live(0);
        return x.step(1, 0) > before;
    }

    // "lies: all grains on a STEP (0 to 9,999)"
    private static void whatLies() {
        SaltStreet x = Checks.made("house a;house b;house c salt 99;cat k from c to a takes 1;");
        Checks.due("= 0 of none", holds(x, "lies a = 0"), true);
        Checks.due("< 0 of none", holds(x, "lies a < 0"), false);
        Checks.due("> 0 of none", holds(x, "lies a > 0"), false);
        Checks.due("< 1 of none", holds(x, "lies a < 1"), true);
        Checks.due("< 9999 of none", holds(x, "lies a < 9999"), true);
        for (int i = 0; i < 10; i++) {
            x.strew(0, 999);
        }
        x.strew(0, 9);
        Checks.due("= 9999", holds(x, "lies a = 9999"), true);
        Checks.due("= 9998", holds(x, "lies a = 9998"), false);
        Checks.due("< 9999", holds(x, "lies a < 9999"), false);
        Checks.due("> 9998", holds(x, "lies a > 9998"), true);
        Checks.due("> 9999", holds(x, "lies a > 9999"), false);
        x.night();
        Checks.due("10,000 > 9999", holds(x, "lies a > 9999"), true);
        Checks.due("10,000 = 9999", holds(x, "lies a = 9999"), false);
        SaltStreet sweet = Checks.made("house a salt 2 sugar 3;house b;");
        sweet.snow(9);
        Checks.due("SALT and SUGAR, under SNOW", holds(sweet, "lies a = 5"), true);
    }

    // "when over, truce: of a QUARREL"
    private static void overAndTruce() {
        SaltStreet x = Checks.made("house a salt 9;house b salt 1;quarrel p of a and b needs 5;quarrel q of a and b needs 1;");
        Checks.due("no grain is there for q", holds(x, "truce q"), false);
        Checks.due("a grain on both is there for p", holds(x, "truce p"), true);
        Checks.due("PEACE is not OVER", holds(x, "over p"), false);
        x.strew(1, 3);
        x.night();
        Checks.due("p is OVER", holds(x, "over p"), true);
        Checks.due("q is OVER", holds(x, "over q"), false);
        x.night();
        Checks.due("q is OVER now", holds(x, "over q"), true);
        x.snow(1);
        Checks.due("under SNOW no TRUCE", holds(x, "truce p"), false);
        Checks.due("but OVER", holds(x, "over p"), true);
    }

    private static void theThingsNamed() {
        SaltStreet x = Checks.made("house a salt 1;house b salt 2;grocer g stock 9 price 1;grocer h stock 9 price 5;");
        Checks.days(x, "buy h 2 to b;buy g 1 to a;strew b 3;sweep a;");
        Checks.good(x, "live", x.live(0), 4);
        Checks.good(x, "STOCK of g", x.grocer(0, 0), 8);
        Checks.good(x, "STOCK of h", x.grocer(1, 0), 7);
        Checks.good(x, "purse()", x.purse(), -11);
        Checks.good(x, "SWEPT of a", x.told(7), 2);
        Checks.good(x, "SALT of b", x.step(1, 0), 7);
    }

    // "loop n (1 to 99): as often"
    private static void loopsAsOften() {
        int[] often = {1, 2, 98, 99};
        for (int n : often) {
            SaltStreet x = lived(ROW, "loop " + n + ";strew d 1;end;strew b 1;", n + 2);
            Checks.good(x, "as often as " + n, x.step(3, 0), n);
            Checks.good(x, "what is behind it", x.step(1, 0), 6);
            x.live(0);
            Checks.good(x, "and again", x.step(3, 0), 2 * n);
        }
        SaltStreet y = lived(ROW, "loop 2;loop 3;loop 4;strew d 1;end;end;end;", 1 + 2 + 6 + 24);
        Checks.good(y, "one within the other", y.step(3, 0), 24);
    }

    // "At most 300 STEPS of it"; lived 4: "1 if a STEP of it was left to be done, else 0"
    private static void threeHundredSteps() {
        String most = "loop 99;strew d 1;strew d 1;strew d 1;end;";
        String[] tails = {"", "night;", "night;night;", "night;night;night;", "night;stop;night;", "night;stop;",
            "night;loop 9;end;", "night;loop 9;end;night;", "night;loop 1;night;end;", "night;when lies b>0;end;",
            "night;when lies b>0;night;end;", "night;when lies b>999;night;end;", "night;when lies b>999;night;end;night;",
            "loop 2;end;night;stop;"};
        int[] done = {298, 299, 300, 300, 300, 300, 300, 300, 300, 300, 300, 300, 300, 300};
        int[] left = {0, 0, 0, 1, 0, 0, 0, 1, 1, 0, 1, 0, 1, 1};
        for (int i = 0; i < tails.length; i++) {
            SaltStreet x = lived(ROW, most + tails[i], done[i]);
            Checks.good(x, "left of " + tails[i], x.lived(4), left[i]);
        }
        SaltStreet y = lived(ROW, "loop 99;strew d 1;strew d 1;strew d 1;strew b 1;end;", 300);
        Checks.good(y, "the last of them", y.step(3, 0), 225);
        Checks.good(y, "the first that is not done", y.step(1, 0), 5 + 74);
        Checks.good(y, "one is left", y.lived(4), 1);
        Checks.days(y, "night;");
        y.live(0);
        Checks.good(y, "none is left in the latest", y.lived(4), 0);
        SaltStreet z = lived(ROW, "stop;night;", 1);
        Checks.good(z, "stop leaves none to be done", z.lived(4), 0);
        Checks.good(z, "no NIGHT", z.told(4), 0);
    }

    // "(when, loop count as one each time they are come to from ahead; end does not)"
    private static void stepsThatCount() {
        lived(ROW, "loop 99;end;", 1);
        lived(ROW, "loop 99;loop 1;end;end;", 100);
        lived(ROW, "loop 99;loop 99;end;end;", 100);
        lived(ROW, "loop 99;when over p;end;end;", 100);
        lived(ROW, "loop 99;when lies a>0;end;when lies a=0;night;end;end;", 199);
        lived(ROW, "when over p;night;end;", 1);
        lived(ROW, "when lies a=5;night;end;", 2);
        SaltStreet x = lived(ROW, "loop 99;loop 99;loop 99;end;end;end;", 300);
        Checks.good(x, "one is left", x.lived(4), 1);
        SaltStreet y = lived(ROW, "loop 2;loop 99;loop 1;end;end;end;", 1 + 2 + 198);
        Checks.good(y, "none is left", y.lived(4), 0);
        SaltStreet z = lived(ROW, "buy g 999 to d;night;strew d 999;stop;", 4);
        Checks.good(z, "one that is MISSED counts", z.lived(0), 1);
    }

    private static int draw(int seed, int many) {
        long s = seed;
        for (int i = 0; i < many; i++) {
            s = (s * 2791 + 11003) % 65536;
        }
        return (int) (s / 8 % 16);
    }

    // "rain n (0 to 16): it RAINS by a draw by 16 that is less than n"; "Draws: .."
    private static void drawsBySixteen() {
        Checks.due("the first draw of seed 0 is 11,003 by 8 by 16", draw(0, 1), 11003 / 8 % 16);
        for (int seed = 0; seed <= 9999; seed += seed < 40 || seed > 9950 ? 1 : 499) {
            int first = draw(seed, 1);
            int[] chances = {0, first, first + 1, 16};
            for (int n : chances) {
                SaltStreet x = Checks.made("house a salt 9;");
                Checks.days(x, "rain " + n + ";");
                Checks.good(x, "live(" + seed + ")", x.live(seed), 1);
                Checks.good(x, "rain " + n + " by " + first, x.lived(1), first < n ? 1 : 0);
                Checks.good(x, "it RAINED", x.told(10), first < n ? 1 : 0);
            }
            SaltStreet y = Checks.made("house a salt 9;");
            Checks.days(y, "rain 0;rain 16;rain " + draw(seed, 3) + ";rain " + (draw(seed, 4) + 1 > 16 ? 16 : draw(seed, 4) + 1) + ";");
            y.live(seed);
            Checks.good(y, "each draws once, 0 and 16, too", y.lived(1), 2);
        }
    }

    // "LIVED by a seed (0 to 9,999): all is as it is then"
    private static void seeds() {
        SaltStreet x = Checks.made(ROW);
        Checks.days(x, "rain 8;strew d 1;night;");
        int[] out = {-1, 10000, Integer.MIN_VALUE, Integer.MAX_VALUE};
        for (int seed : out) {
            Checks.refused(x, "live(" + seed + ")", x.live(seed), 1);
        }
        Checks.good(x, "nothing was done", x.told(4), 0);
        Checks.refused(x, "none was lived", x.lived(0), 6);
        Checks.good(x, "live(9999)", x.live(9999), 3);
        Checks.good(x, "it is so then", x.told(4), 1);
        Checks.good(x, "live(0)", x.live(0), 3);
        Checks.good(x, "it goes on from there", x.told(4), 2);
        SaltStreet y = Checks.made(ROW);
        Checks.days(y, "rain 8;strew d 1;night;");
        y.live(9999);
        y.live(0);
        Checks.due("the same seeds, the same DAYS", Checks.seen(x), Checks.seen(y));
    }

    // Promise 60: "Of live() latest with STATUS 0"; "(1; 6: there was none)"
    private static void livedTells() {
        SaltStreet x = Checks.made("rain washes 5;house a salt 5;house b salt 5;quarrel p of a and b needs 1;"
                + "quarrel q of b and a needs 1;quarrel r of a and b needs 99;");
        Checks.refused(x, "there was none", x.lived(0), 6);
        Checks.days(x, "night;rain 16;night;rain 16;night;strew a 9;strew b 9;night;");
        x.live(0);
        int[] want = {0, 2, 4, 2, 0};
        for (int what = 0; what <= 4; what++) {
            Checks.good(x, "lived(" + what + ")", x.lived(what), want[what]);
        }
        Checks.refused(x, "lived(5)", x.lived(5), 1);
        Checks.refused(x, "lived(-1)", x.lived(-1), 1);
        Checks.refused(x, "live(-1)", x.live(-1), 1);
        Checks.good(x, "of the latest with STATUS 0", x.lived(2), 4);
        Checks.good(x, "odds() is none", x.odds(1, 0, 20));
        Checks.good(x, "of the latest live()", x.lived(2), 4);
        Checks.days(x, "");
        Checks.good(x, "new DAYS are not lived yet", x.lived(2), 4);
        x.live(0);
        for (int what = 0; what <= 4; what++) {
            Checks.good(x, "nothing in them", x.lived(what), 0);
        }
        Checks.street(x, "");
        Checks.refused(x, "no DAYS", x.live(0), 6);
        Checks.good(x, "of the latest with STATUS 0", x.lived(0), 0);
    }

    // Promise 61: "in how many of so many seeds (1 to 20) from one on all QUARRELS of a set are OVER"
    private static void oddsOfSeeds() {
        SaltStreet x = Checks.made("rain washes 5;house a salt 5;house b salt 5;quarrel p of a and b needs 1;"
                + "quarrel q of a and b needs 9;");
        Checks.days(x, "rain 8;night;");
        int[] firsts = {0, 1, 5000, 9980};
        for (int seed : firsts) {
            for (int many = 1; many <= 20; many++) {
                int good = 0;
                for (int i = 0; i < many; i++) {
                    good += draw(seed + i, 1) < 8 ? 0 : 1;
                }
                int common = java.math.BigInteger.valueOf(good).gcd(java.math.BigInteger.valueOf(many)).intValue();
                Checks.good(x, "odds(1, " + seed + ", " + many + ")", x.odds(1, seed, many));
                Checks.fraction(x, "odds(1, " + seed + ", " + many + ")", good / common, many / common);
            }
        }
        Checks.good(x, "a set that is never OVER", x.odds(3, 0, 20));
        Checks.fraction(x, "0 is 0 by 1", 0, 1);
        Checks.good(x, "the empty set", x.odds(0, 0, 20));
        Checks.fraction(x, "always", 1, 1);
        Checks.good(x, "it is DAY 0 yet", x.told(4), 0);
        Checks.good(x, "SALT lies yet", x.step(0, 0), 5);
        x.night();
        Checks.days(x, "");
        Checks.good(x, "it is OVER now", x.odds(1, 0, 7));
        Checks.fraction(x, "it is OVER now", 1, 1);
    }

    // "MARKS, at most 3 .. all is taken back to the latest MARK, which is gone then"
    private static void marksAtMostThree() {
        SaltStreet x = Checks.made(ROW);
        Checks.refused(x, "none yet", x.back(), 6);
        for (int round = 0; round < 2; round++) {
            for (int i = 1; i <= 3; i++) {
                Checks.good(x, "mark()", x.mark(), i);
                x.strew(3, i);
            }
            Checks.refused(x, "a fourth", x.mark(), 4);
            Checks.good(x, "d", x.step(3, 0), 6);
            int[] behind = {3, 1, 0};
            for (int i = 0; i < 3; i++) {
                Checks.good(x, "back()", x.back(), 2 - i);
                Checks.good(x, "d", x.step(3, 0), behind[i]);
            }
            Checks.refused(x, "no more", x.back(), 6);
        }
        SaltStreet empty = new SaltStreet();
        Checks.good(empty, "a MARK of an empty STREET", empty.mark(), 1);
        Checks.street(empty, ROW);
        Checks.good(empty, "back()", empty.back(), 0);
        Checks.good(empty, "no HOUSES", empty.told(0), 0);
        Checks.refused(empty, "no DAYS", empty.live(0), 6);
    }

    // "the STREET with all that became of it, the DAYS are kept as they are"
    private static void marksKeepAll() {
        String[] streets = {"", ROW, "gone counts;house z salt 1;house y gone;quarrel o of y and z needs 1;",
            "house a gone;house b gone;quarrel p of b and a needs 1;rain washes 9;"};
        for (String other : streets) {
            SaltStreet x = Rich.make();
            SaltStreet twin = Rich.make();
            x.mark();
            Checks.refused(x, "the tape is used up", x.street(1), 9);
            Checks.refused(twin, "the tape is used up", twin.street(1), 9);
            Checks.street(x, other);
            x.rain();
            x.snow(9);
            x.night();
            x.strew(0, 9);
            x.sweep(1);
            Checks.refused(x, "the same FAULT", Checks.street(x, "h"), 9);
            Checks.good(x, "back()", x.back(), 1);
            Checks.feed(x, "house z salt 9;");
            Checks.feed(twin, "house z salt 9;");
            Checks.due("all is as it was", Rich.all(x), Rich.all(twin));
        }
    }

    // "FRACTIONS are told .. without a common divisor, the bottom above 0; 0 is 0 by 1"
    private static void fractions() {
        SaltStreet x = new SaltStreet();
        Checks.fraction(x, "a new object", 0, 1);
        x.told(-1);
        x.top();
        x.bottom();
        Checks.due("top(), bottom() have no STATUS", x.status(), 1);
        Checks.due("status() has none", x.status(), 1);
        Checks.street(x, "house a salt 6 sugar 6;house b salt 9;");
        Checks.good(x, "6 of 12", x.found(0, 1));
        Checks.fraction(x, "6 of 12", 1, 2);
        Checks.refused(x, "a refused one tells none", x.found(0, 5), 1);
        Checks.fraction(x, "told latest", 1, 2);
        Checks.good(x, "0 of 9", x.found(1, 3));
        Checks.fraction(x, "0 of 9", 0, 1);
        Checks.days(x, "");
        Checks.good(x, "odds", x.odds(0, 0, 20));
        Checks.fraction(x, "20 of 20", 1, 1);
        Checks.refused(x, "odds", x.odds(0, 0, 21), 1);
        Checks.fraction(x, "told latest", 1, 1);
        Checks.street(x, "");
        Checks.fraction(x, "a STREET changes it not", 1, 1);
    }
}
