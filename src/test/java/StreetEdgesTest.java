import java.util.ArrayList;
import java.util.List;

/** Part ==== 1, sentence by sentence, with promises 9 to 12: the edges of the tape and of a STREET's text. */
public final class StreetEdgesTest {
    private static final String EIGHT = houses(8);
    private static final String AB = "house a;house b;house c gone;";
    private static final String[] WORDS = ("house salt sugar gone quarrel of and needs cat from to takes grocer stock price"
            + " sweet rain washes counts buy strew sweep snow night when over truce lies loop end stop").split(" ");

    public static void main(String[] args) {
        theTapeHas900();
        theHighestFirst();
        theTapeIsEmptyThen();
        everyByteAlone();
        everyByteBehindAWord();
        everyByteBehindANumber();
        numbersOfFourDigits();
        namesOfEightLetters();
        noNameOfTheWords();
        oneNameOneThing();
        namesToldAhead();
        asManyAsThereMayBe();
        asManyAsThereMayBeOfAll();
        everyNumber();
        whatIsNotTold();
        goneOnes();
        oneHouseTwice();
        toldAlready();
        theLeastKind();
        cutAnywhere();
        aNewStreet();
        nothingIsLeftOfTheOne();
        theOldOneStays();
        whatFaultTells();
        Checks.finish();
    }

    private static String houses(int many) {
        StringBuilder s = new StringBuilder();
        for (int i = 0; i < many; i++) {
            s.append("house ").append((char) ('a' + i)).append(';');
        }
        return s.toString();
    }

    private static String padded(String head, int length, String tail) {
        StringBuilder s = new StringBuilder(head);
        while (s.length() < length - tail.length()) {
            s.append(s.length() % 3 == 0 ? '\n' : ' ');
        }
        return s.append(tail).toString();
    }

    // "A STREET is a TEXT of at most 900 bytes"; promise 9: "NONE if there would be more than 900"
    private static void theTapeHas900() {
        SaltStreet x = new SaltStreet();
        x.told(-1);
        String text = padded("house a;", 900, "house zz;");
        Checks.feed(x, text.substring(0, 880));
        Checks.due("the 45th", x.feed(0x20202020, 0x20202020, 0x2020686F, 0x75736520, 0x7A7A3B20), 900);
        for (int i = 0; i < 3; i++) {
            Checks.due("the 46th", x.feed(0x21212121, 0x21212121, 0x21212121, 0x21212121, 0x21212121), -1);
        }
        Checks.due("feed() has no STATUS", x.status(), 1);
        Checks.refused(x, "street(901)", x.street(901), 1);
        Checks.refused(x, "days(301)", x.days(301), 1);
        Checks.good(x, "street(900), as it was ahead of the 46th", x.street(900), 0);
        Checks.good(x, "both HOUSES", x.told(0), 2);
        Checks.due("empty then", x.feed(0, 0, 0, 0, 0), 20);
        SaltStreet y = new SaltStreet();
        Checks.good(y, "a PART up to the last byte", Checks.street(y, text), 0);
        Checks.good(y, "both HOUSES", y.told(0), 2);
        Checks.faultyStreet(padded("house a;", 900, "!"), 1, 899);
        Checks.faultyStreet(padded("house a;", 900, ";"), 2, 899);
        Checks.faultyStreet(padded("house a", 900, ""), 2, 900);
    }

    // Promise 9: "Twenty bytes .. the highest of each int first"
    private static void theHighestFirst() {
        String twenty = "house abcdefg  ;    ";
        for (int at = 0; at < 20; at++) {
            byte[] bytes = twenty.getBytes(java.nio.charset.StandardCharsets.ISO_8859_1);
            bytes[at] = (byte) 0x80;
            int[] v = new int[5];
            for (int i = 0; i < 20; i++) {
                v[i / 4] |= (bytes[i] & 255) << 24 - 8 * (i % 4);
            }
            SaltStreet x = new SaltStreet();
            Checks.due("twenty bytes", x.feed(v[0], v[1], v[2], v[3], v[4]), 20);
            Checks.refused(x, "a byte of 128 at " + at, x.street(20), 9);
            Checks.due("the FAULT", x.fault(0), at >= 1 && at <= 4 ? 2 : 1);
            Checks.due("its place", x.fault(1), at >= 1 && at <= 4 ? 0 : at);
        }
    }

    // Promises 10, 11: "(which is empty then)", "n below 0, or more than the tape has, too"
    private static void theTapeIsEmptyThen() {
        SaltStreet x = new SaltStreet();
        Checks.refused(x, "one of an empty tape", x.street(1), 1);
        Checks.refused(x, "one of an empty tape", x.days(1), 1);
        Checks.good(x, "none of an empty tape", x.street(0), 0);
        Checks.good(x, "none of an empty tape", x.days(0), 0);
        Checks.feed(x, "house a;house b;    ");
        int[] out = {-1, 21, Integer.MIN_VALUE, Integer.MAX_VALUE};
        for (int n : out) {
            Checks.refused(x, "street(" + n + ")", x.street(n), 1);
            Checks.refused(x, "days(" + n + ")", x.days(n), 1);
        }
        Checks.good(x, "all of it is there yet", x.street(20), 0);
        Checks.good(x, "told(0)", x.told(0), 2);
        Checks.due("empty behind 0", x.feed(0x20202020, 0, 0, 0, 0), 20);
        Checks.refused(x, "street with a FAULT", x.street(5), 9);
        Checks.due("empty behind 9", x.feed(0x20202020, 0, 0, 0, 0), 20);
        Checks.refused(x, "days with a FAULT", x.days(5), 9);
        Checks.due("empty behind 9", x.feed(0x20202020, 0, 0, 0, 0), 20);
        Checks.good(x, "days", x.days(4), 0);
        Checks.due("empty behind 0", x.feed(0x20202020, 0, 0, 0, 0), 20);
        Checks.good(x, "what is behind the first n is gone, too", x.street(0), 0);
        Checks.refused(x, "the tape is empty", x.street(1), 1);
    }

    private static boolean isBlank(int c) {
        return c == 10 || c == 32;
    }

    private static boolean isLetter(int c) {
        return c >= 'a' && c <= 'z';
    }

    private static boolean isDigit(int c) {
        return c >= '0' && c <= '9';
    }

    private static boolean isSign(int c) {
        return c == ';' || c == '<' || c == '>' || c == '=';
    }

    // "blanks (10, 32): WORDS (small letters), NUMBERS (1 to 4 digits), SIGNS ; < > ="; "1 no TOKEN begins so"
    private static void everyByteAlone() {
        for (int c = 0; c < 256; c++) {
            SaltStreet x = new SaltStreet();
            int got = Checks.street(x, String.valueOf((char) c));
            if (isBlank(c)) {
                Checks.good(x, "a blank " + c, got, 0);
            } else {
                Checks.refused(x, "byte " + c, got, 9);
                Checks.due("the FAULT of byte " + c, x.fault(0), isLetter(c) || isDigit(c) || isSign(c) ? 2 : 1);
                Checks.due("its place", x.fault(1), 0);
            }
        }
    }

    // "TOKENS, as long as they go"
    private static void everyByteBehindAWord() {
        for (int c = 0; c < 256; c++) {
            SaltStreet x = new SaltStreet();
            int got = Checks.street(x, "house" + (char) c + "b;");
            if (isBlank(c)) {
                Checks.good(x, "a blank " + c, got, 0);
                Checks.good(x, "told(0)", x.told(0), 1);
            } else {
                Checks.refused(x, "byte " + c, got, 9);
                Checks.due("the FAULT of byte " + c, x.fault(0), isLetter(c) || isDigit(c) || isSign(c) ? 2 : 1);
                Checks.due("its place", x.fault(1), isLetter(c) ? 0 : 5);
            }
        }
    }

    private static void everyByteBehindANumber() {
        for (int c = 0; c < 256; c++) {
            SaltStreet x = new SaltStreet();
            int got = Checks.street(x, "house a salt 12" + (char) c + ";");
            if (isBlank(c) || isDigit(c)) {
                Checks.good(x, "byte " + c, got, 0);
                Checks.good(x, "SALT", x.step(0, 0), isDigit(c) ? 120 + c - '0' : 12);
            } else {
                Checks.refused(x, "byte " + c, got, 9);
                Checks.due("the FAULT of byte " + c, x.fault(0), isLetter(c) || isSign(c) ? 2 : 1);
                Checks.due("its place", x.fault(1), c == ';' ? 16 : 15);
            }
        }
    }

    // "NUMBERS (1 to 4 digits)"; "a NUMBER of 5 digits and more: at its first"
    private static void numbersOfFourDigits() {
        String[] fine = {"0", "7", "00", "07", "999", "000", "0000", "0007", "0999"};
        for (String number : fine) {
            SaltStreet x = Checks.made("house a salt " + number + ";");
            Checks.good(x, "SALT " + number, x.step(0, 0), Integer.parseInt(number));
        }
        Checks.faultyStreet("house a salt 1000;", 4, 13);
        Checks.faultyStreet("house a salt 9999;", 4, 13);
        String[] long5 = {"00000", "00007", "10000", "99999", "4294967296", "18446744073709551616", "00000000000000000001"};
        for (String number : long5) {
            Checks.faultyStreet("house a salt " + number + ";", 1, 13);
            Checks.faultyStreet("house " + number + ";", 1, 6);
            Checks.faultyStreet(number, 1, 0);
        }
    }

    // "NAME: a WORD of 1 to 8 letters"; "a WORD of 9 letters and more where a NAME must stand"
    private static void namesOfEightLetters() {
        SaltStreet x = Checks.made("house z;house zz;house zzz;house zzzz;house zzzzz;house zzzzzz;house zzzzzzz;"
                + "house zzzzzzzz;quarrel azzzzzzz of z and zzzzzzzz needs 1;");
        Checks.good(x, "one letter to eight", x.told(0), 8);
        Checks.good(x, "the last one", x.quarrel(0, 1), 7);
        Checks.faultyStreet("house zzzzzzzzz;", 2, 6);
        Checks.faultyStreet("house " + "z".repeat(894), 2, 6);
        Checks.faultyStreet("house zzzzzzzz;house zzzzzzzzz;", 2, 21);
        Checks.faultyStreet("house zzzzzzzz;house b;quarrel p of zzzzzzzza and b needs 1;", 2, 36);
        Checks.faultyStreet("quarrelss", 2, 0);
        Checks.faultyStreet("houseaaaaaaaaaaa", 2, 0);
        SaltStreet two = Checks.made("house abcdefgh;house abcdefgi;quarrel p of abcdefgi and abcdefgh needs 1;");
        Checks.good(two, "the eighth letter tells", two.quarrel(0, 0), 1);
    }

    // "none of house, salt, sugar, .. end, stop"
    private static void noNameOfTheWords() {
        Checks.due("so many WORDS", WORDS.length, 31);
        for (String word : WORDS) {
            Checks.faultyStreet("house " + word + ";", 2, 6);
            Checks.faultyStreet(AB + "quarrel " + word + " of a and b needs 1;", 2, 37);
            Checks.faultyStreet(AB + "quarrel p of " + word, 2, 42);
            Checks.faultyStreet(AB + "cat " + word, 2, 33);
            Checks.faultyStreet("grocer " + word, 2, 7);
            SaltStreet x = Checks.made("house " + word + "a;house a" + word + ";");
            Checks.good(x, "a NAME that is longer", x.told(0), 2);
            Checks.good(x, "a NAME that is shorter", Checks.street(x, "house " + word.charAt(0) + ";"), 0);
        }
    }

    // "One NAME is of one thing alone"; "3 a new NAME that is taken"
    private static void oneNameOneThing() {
        String[] parts = {"house # salt 1;", "quarrel # of a and b needs 1;", "cat # from a to b takes 1;",
            "grocer # stock 1 price 1;"};
        String[] heads = {"house ", "quarrel ", "cat ", "grocer "};
        for (String first : parts) {
            String ahead = AB + first.replace('#', 'n');
            for (String head : heads) {
                Checks.faultyStreet(ahead + head + "n", 3, ahead.length() + head.length());
                Checks.faultyStreet(ahead + head + "m", 2, ahead.length() + head.length() + 1);
            }
            SaltStreet x = Checks.made(ahead + first.replace('#', 'm'));
            Checks.due("another NAME", x.status(), 0);
        }
        Checks.faultyStreet("house a;house b;quarrel a", 3, 24);
    }

    // "what a PART names must be told ahead"; "a NAME that is no such thing told ahead"
    private static void namesToldAhead() {
        String all = AB + "quarrel p of a and b needs 1;cat k from a to b takes 1;grocer g stock 1 price 1;";
        String[] names = {"p", "k", "g", "n", "z"};
        for (String name : names) {
            Checks.faultyStreet(all + "quarrel n of " + name, 3, all.length() + 13);
            Checks.faultyStreet(all + "quarrel n of a and " + name, 3, all.length() + 19);
            Checks.faultyStreet(all + "cat n from " + name, 3, all.length() + 11);
            Checks.faultyStreet(all + "cat n from a to " + name, 3, all.length() + 16);
        }
        Checks.faultyStreet("quarrel p of a and b needs 1;house a;house b;", 3, 13);
        Checks.faultyStreet("house a;quarrel p of a and b needs 1;house b;", 3, 27);
        Checks.faultyStreet("house b;cat k from b to a takes 1;house a;", 3, 24);
    }

    // "HOUSES, at most 8", "QUARRELS, at most 8", "CATS, at most 4", "GROCERS, at most 4"; "6 .. (at that WORD)"
    private static void asManyAsThereMayBe() {
        String[] parts = {"house n#;", "quarrel n# of a and b needs 1;", "cat n# from a to b takes 1;",
            "grocer n# stock 1 price 1;"};
        int[] most = {8, 8, 4, 4};
        for (int sort = 0; sort < 4; sort++) {
            StringBuilder s = new StringBuilder(sort == 0 ? "" : "house a;house b;");
            for (int i = 0; i < most[sort]; i++) {
                s.append(parts[sort].replace('#', (char) ('a' + i)));
            }
            SaltStreet x = Checks.made(s.toString());
            Checks.good(x, "so many of sort " + sort, x.told(sort), most[sort]);
            String word = parts[sort].substring(0, parts[sort].indexOf(' '));
            Checks.faultyStreet(s + parts[sort].replace('#', 'z'), 6, s.length());
            Checks.faultyStreet(s + word, 6, s.length());
            Checks.faultyStreet(s + "\n " + word + "!", 6, s.length() + 2);
            Checks.faultyStreet(s + word + "s", 2, s.length());
            SaltStreet y = Checks.made(s + "rain washes 1;gone counts;");
            Checks.good(y, "other PARTS can be", y.rain(), 0);
        }
        SaltStreet none = Checks.made("rain washes 1;");
        for (int sort = 0; sort < 4; sort++) {
            Checks.good(none, "none at all of sort " + sort, none.told(sort), 0);
        }
    }

    /** All of it at once: eight HOUSES, eight QUARRELS, four CATS, four GROCERS, with 24 NAMES. */
    private static void asManyAsThereMayBeOfAll() {
        StringBuilder s = new StringBuilder();
        for (int i = 0; i < 8; i++) {
            s.append("house h").append((char) ('a' + i)).append(" salt ").append(i + 1).append(';');
        }
        for (int i = 0; i < 8; i++) {
            s.append("quarrel q").append((char) ('a' + i)).append(" of h").append((char) ('a' + i)).append(" and h")
                .append((char) ('a' + (i + 1) % 8)).append(" needs 1;");
        }
        for (int i = 0; i < 4; i++) {
            s.append("cat c").append((char) ('a' + i)).append(" from h").append((char) ('h' - i)).append(" to ha takes 1;");
        }
        for (int i = 0; i < 4; i++) {
            s.append("grocer g").append((char) ('a' + i)).append(" stock 2 price 1;");
        }
        SaltStreet x = Checks.made(s.toString());
        int[] told = {8, 8, 4, 4};
        for (int sort = 0; sort < 4; sort++) {
            Checks.good(x, "told(" + sort + ")", x.told(sort), told[sort]);
        }
        Checks.good(x, "the last of each", Checks.days(x, "sweep hh;buy gd 1 to hh;when over qh;end;"), 3);
        Checks.refused(x, "a NAME that is none", Checks.days(x, "sweep hi;"), 9);
        Checks.due("the FAULT", x.fault(0), 3);
        Checks.good(x, "the last beside it", x.beside(7), 7);
        Checks.good(x, "the first beside it", x.beside(0), 2);
        Checks.good(x, "peace()", x.peace(), 127);
        Checks.good(x, "truce()", x.truce(), 127);
        Checks.good(x, "most()", x.most(), 127);
        Checks.good(x, "lack(255)", x.lack(255), 1);
        Checks.good(x, "wants(0)", x.wants(0), 128);
        Checks.good(x, "best(1)", x.best(1), 0);
        Checks.good(x, "chain(7)", x.chain(7), 255);
        Checks.good(x, "level()", x.level(), 6);
        Checks.good(x, "rain()", x.rain(), 1 + 2 + 3 + 4 + 5 + 5 + 5 + 5);
        x.snow(1);
        Checks.good(x, "night()", x.night(), 1);
        Checks.good(x, "MELTED", x.told(8), 3);
        Checks.good(x, "SALT of the last", x.step(7, 0), 2);
        Checks.refused(x, "thawAll()", x.thawAll(), 6);
    }

    // Each NUMBER of a PART: the last that can be and the first that can't, on both sides
    private static void everyNumber() {
        everyNumber("house d salt #;", 0, 999);
        everyNumber("house d sugar #;", 0, 999);
        everyNumber("house d salt 1 sugar #;", 0, 999);
        everyNumber("quarrel p of a and b needs #;", 1, 99);
        everyNumber("cat k from a to b takes #;", 1, 99);
        everyNumber("grocer g stock # price 1;", 0, 999);
        everyNumber("grocer g stock 1 price #;", 1, 99);
        everyNumber("grocer g stock 1 price 1 sweet #;", 0, 16);
        everyNumber("rain washes #;", 0, 99);
    }

    private static void everyNumber(String part, int least, int greatest) {
        int place = AB.length() + part.indexOf('#');
        int[] fine = {least, least + 1, greatest - 1, greatest};
        int[] wrong = {least - 1, greatest + 1, 9999};
        for (int v : fine) {
            SaltStreet x = Checks.made(AB + part.replace("#", String.valueOf(v)));
            Checks.due("no FAULT", x.fault(0), 0);
        }
        for (int v : wrong) {
            if (v >= 0) {
                Checks.faultyStreet(AB + part.replace("#", String.valueOf(v)), 4, place);
            }
        }
        Checks.faultyStreet(AB + part.replace("#", "10000"), 1, place);
        Checks.faultyStreet(AB + part.replace("#", "-1"), 1, place);
        Checks.faultyStreet(AB + part.replaceAll("# ?", ""), 2, place);
        Checks.faultyStreet(AB + part.replace("#", "a"), 2, place);
        Checks.faultyStreet(AB + part.replace("#", "aaaaaaaaa"), 2, place);
        Checks.faultyStreet(AB + part.replace("#", "1aaaaaaaaa"), 2, place + 1);
        Checks.faultyStreet(AB + part.replace("#", "1 1"), 2, place + 2);
    }

    // "0 without", "5 without"; what was told stands as it was told
    private static void whatIsNotTold() {
        SaltStreet x = Checks.made("house a;house b salt 3;house c sugar 4;house d salt 999 sugar 999;"
                + "grocer g stock 0 price 99;grocer h stock 999 price 1 sweet 16;");
        int[][] want = {{0, 0}, {3, 0}, {0, 4}, {999, 999}};
        for (int h = 0; h < 4; h++) {
            Checks.good(x, "SALT", x.step(h, 0), want[h][0]);
            Checks.good(x, "SUGAR", x.step(h, 1), want[h][1]);
        }
        int[][] grocer = {{0, 99, 0}, {999, 1, 16}};
        for (int g = 0; g < 2; g++) {
            for (int what = 0; what < 3; what++) {
                Checks.good(x, "GROCER", x.grocer(g, what), grocer[g][what]);
            }
        }
        Checks.good(x, "RAIN WASHES 5 without", x.quiet(0, 0, 1), 5);
        SaltStreet zero = Checks.made("house a;rain washes 0;");
        Checks.good(zero, "RAIN WASHES 0", zero.quiet(0, 0, 9), 0);
        SaltStreet most = Checks.made("house a;rain washes 99;");
        Checks.good(most, "RAIN WASHES 99", most.quiet(0, 0, 9), 891);
    }

    // "one that is GONE has no STEP (salt, sugar must not be told)"; "gone behind salt or sugar (at it)"
    private static void goneOnes() {
        Checks.faultyStreet("house a salt 0 gone;", 5, 15);
        Checks.faultyStreet("house a sugar 0 gone;", 5, 16);
        Checks.faultyStreet("house a salt 0 sugar 0 gone;", 5, 23);
        Checks.faultyStreet("house a gone salt 0;", 2, 13);
        Checks.faultyStreet("house a gone sugar 0;", 2, 13);
        Checks.faultyStreet("house a gone gone;", 2, 13);
        Checks.faultyStreet("house a salt gone;", 2, 13);
        Checks.faultyStreet("house a sugar 0 salt 0;", 2, 16);
        Checks.faultyStreet(AB + "cat k from c", 5, 40);
        Checks.faultyStreet(AB + "cat k from c to c", 5, 40);
        Checks.faultyStreet(AB + "cat k from a to c", 5, 45);
        SaltStreet x = Checks.made("house a gone;house b gone;house c gone;house d gone;house e gone;house f gone;"
                + "house g gone;house h gone;quarrel p of a and h needs 99;gone counts;");
        Checks.good(x, "all are GONE", x.told(9), 255);
        Checks.good(x, "a QUARREL of two that are GONE", x.peace(), 1);
    }

    // "QUARRELS .. of two HOUSES (not one twice)", "CATS .. from a HOUSE to another one"; "5 a HOUSE twice"
    private static void oneHouseTwice() {
        Checks.faultyStreet(AB + "quarrel p of a and a needs 1;", 5, 48);
        Checks.faultyStreet(AB + "quarrel p of c and c needs 1;", 5, 48);
        Checks.faultyStreet(AB + "cat k from b to b takes 1;", 5, 45);
        SaltStreet x = Checks.made(AB + "quarrel p of a and b needs 1;quarrel q of b and a needs 1;"
                + "cat k from a to b takes 1;cat l from a to b takes 1;");
        Checks.good(x, "the same two again", x.told(1), 2);
        Checks.good(x, "the same way again", x.told(2), 2);
    }

    // "rain, gone counts told already (at washes, counts)"
    private static void toldAlready() {
        Checks.faultyStreet("rain washes 5;rain washes 5;", 5, 19);
        Checks.faultyStreet("rain washes 5;house a;rain\n washes", 5, 28);
        Checks.faultyStreet("rain washes 5;rain 5;", 2, 19);
        Checks.faultyStreet("rain washes 5;rain", 2, 18);
        Checks.faultyStreet("gone counts;gone counts;", 5, 17);
        Checks.faultyStreet("gone counts;rain washes 1;gone   counts", 5, 33);
        Checks.faultyStreet("gone counts;gone ;", 2, 17);
        Checks.faultyStreet("gone counts;gone", 2, 16);
        SaltStreet x = new SaltStreet();
        Checks.street(x, "rain washes 7;gone counts;");
        Checks.good(x, "told ahead in another STREET", Checks.street(x, "gone counts;rain washes 8;"), 0);
        Checks.refused(x, "told already", Checks.street(x, "gone counts;rain washes 8;rain washes 9;"), 9);
        Checks.good(x, "told ahead in one with a FAULT", Checks.street(x, "gone counts;rain washes 8;house a;"), 0);
        Checks.good(x, "RAIN WASHES 8", x.quiet(0, 0, 1), 8);
    }

    // "FAULTS, the first along the text (of one TOKEN the least kind)"
    private static void theLeastKind() {
        Checks.faultyStreet("house a salt 1000;!", 4, 13);
        Checks.faultyStreet("! house a salt 1000;", 1, 0);
        Checks.faultyStreet("house house;house a salt 1000", 2, 6);
        Checks.faultyStreet(AB + "quarrel a of ! and", 3, 37);
        Checks.faultyStreet(AB + "quarrel p of z and c needs 0;", 3, 42);
        Checks.faultyStreet(AB + "quarrel p of a and a needs 0;", 5, 48);
        Checks.faultyStreet(AB + "quarrel p of a and b needs 0;house a;", 4, 56);
        Checks.faultyStreet(EIGHT + "house 12345", 6, EIGHT.length());
        Checks.faultyStreet(EIGHT + "12345 house", 1, EIGHT.length());
        Checks.faultyStreet("house 123456789", 1, 6);
        Checks.faultyStreet("house a 10000", 1, 8);
        Checks.faultyStreet("house a 1000", 2, 8);
    }

    // "2 it can't stand there (the end: the text's length ..)": a text that is cut at each of its bytes
    private static void cutAnywhere() {
        String text = "house a salt 12 sugar 3 ; house b gone ; house c ; gone counts ; rain washes 45 ;"
                + " quarrel p of a and b needs 67 ; cat k from a to c takes 8 ; grocer g stock 12 price 34 sweet 5 ;\n";
        List<Integer> starts = new ArrayList<>();
        for (int i = 0; i < text.length(); i++) {
            boolean blank = isBlank(text.charAt(i));
            if (!blank && (i == 0 || isBlank(text.charAt(i - 1)))) {
                starts.add(i);
            }
        }
        for (int n = 0; n <= text.length(); n++) {
            int start = -1;
            for (int s : starts) {
                start = s < n ? s : start;
            }
            String last = start < 0 ? "" : text.substring(start, n).trim();
            String whole = start < 0 ? "" : text.substring(start).split("[ \n]")[0];
            SaltStreet x = new SaltStreet();
            Checks.feed(x, text);
            int got = x.street(n);
            if (last.isEmpty() || last.equals(";")) {
                Checks.good(x, "cut at " + n, got, n > text.indexOf("needs 67 ;") + 9 ? 1 : 0);
            } else {
                boolean wordCut = !last.equals(whole) && isLetter(last.charAt(0));
                Checks.refused(x, "cut at " + n, got, 9);
                Checks.due("the FAULT of a text cut at " + n, x.fault(0), 2);
                Checks.due("its place, cut at " + n, x.fault(1), wordCut ? start : n);
            }
        }
    }

    // "A STREET that is taken is there in place of that ahead; it is DAY 0, no SNOW, .."
    private static void aNewStreet() {
        String[] texts = {"", " ", Rich.STREET, "house a;", "house a gone;"};
        for (String text : texts) {
            SaltStreet x = new SaltStreet();
            Checks.street(x, Rich.STREET);
            x.buy(0, 16, 1);
            x.sweep(0);
            x.snow(9);
            Checks.days(x, "rain 16;night;");
            x.live(0);
            x.rain();
            int more = Checks.street(x, text);
            SaltStreet fresh = new SaltStreet();
            Checks.good(x, "as many QUARRELS", more, Checks.street(fresh, text));
            Checks.refused(x, "no DAYS", x.live(0), 6);
            Checks.good(x, "what was lived is told yet", x.lived(1), 1);
            Checks.days(x, "");
            Checks.days(fresh, "");
            x.live(0);
            fresh.live(0);
            Checks.due("all is as in a new one", Checks.seen(x), Checks.seen(fresh));
        }
    }

    /** Neither of the STREET ahead, nor of one with a FAULT, nor of what was foreseen. */
    private static void nothingIsLeftOfTheOne() {
        String plain = "house a;house b;quarrel p of a and b needs 1;grocer g stock 9 price 1;grocer h stock 1 price 1;";
        SaltStreet x = Checks.made("gone counts;rain washes 9;house a salt 50 sugar 9;house b salt 50;house c gone;house d;"
                + "quarrel p of a and b needs 60;cat k from a to d takes 9;grocer g stock 99 price 9 sweet 9;"
                + "grocer h stock 99 price 9 sweet 16;");
        x.snow(9);
        x.rain();
        Checks.days(x, "rain 16;night;strew a 99;buy g 9 to b;sweep a;night;snow 9;rain 16;");
        Checks.good(x, "what is foreseen", x.odds(1, 0, 1));
        String[] faulty = {"", "gone counts;rain washes 8;house a gone;house b salt 7 sugar 7;quarrel p of a and b needs 1;"
            + "grocer g stock 7 price 7 sweet 7;!"};
        for (String text : faulty) {
            Checks.street(x, text);
            Checks.good(x, "a STREET", Checks.street(x, plain), 1);
            SaltStreet fresh = Checks.made(plain);
            Checks.good(x, "RAIN WASHES 5", x.quiet(0, 0, 1), 5);
            Checks.due("all is as in a new one", Checks.seen(x), Checks.seen(fresh));
            Checks.good(x, "a STREET with a GONE one", Checks.street(x, "house a;house b gone;quarrel p of a and b needs 1;"), 1);
            Checks.good(x, "GONE doesn't count", x.hopeless(), 1);
            Checks.refused(x, "a NAME of the one ahead", Checks.days(x, "buy g 1 to a;"), 9);
            Checks.due("the FAULT", x.fault(0), 3);
        }
        SaltStreet seen = Checks.made("rain washes 1;house a salt 9;house b salt 9;quarrel p of a and b needs 3;");
        seen.snow(5);
        seen.rain();
        Checks.good(seen, "foreseen", seen.forecast(0, 60, 0), 3);
        Checks.good(seen, "foreseen to be OVER", seen.soonest(0), 1);
        Checks.street(seen, plain);
        Checks.due("all is as in a new one", Checks.seen(seen), Checks.seen(Checks.made(plain)));
    }

    // Promise 10: "9: the old one stays"; part ==== 5: "(but street(), days() with 9 the tape, and what fault() tells)"
    private static void theOldOneStays() {
        String[] texts = {"house z;!", "house z", "house z;house z;", "house z salt 1000;", "house z salt 1 gone;",
            "rain washes 9;gone counts;" + houses(9)};
        int[] kinds = {1, 2, 3, 4, 5, 6};
        for (int i = 0; i < texts.length; i++) {
            SaltStreet x = Rich.make();
            SaltStreet twin = Rich.make();
            Checks.refused(x, "the tape is used up", x.street(1), 9);
            Checks.refused(twin, "the tape is used up", twin.street(1), 9);
            Checks.refused(x, "street " + texts[i], Checks.street(x, texts[i]), 9);
            Checks.due("the FAULT", x.fault(0), kinds[i]);
            Checks.refused(x, "the same FAULT again", Checks.street(x, "hous"), 9);
            Checks.refused(twin, "the same FAULT", Checks.street(twin, "hous"), 9);
            Checks.feed(x, "house z salt 9;");
            Checks.feed(twin, "house z salt 9;");
            Checks.due("all else stays", Rich.all(x), Rich.all(twin));
        }
    }

    // Promise 12: "(0 without one)", "(NONE without)", "NONE for others, and ahead of any"
    private static void whatFaultTells() {
        int[] others = {-1, 2, 3, Integer.MIN_VALUE, Integer.MAX_VALUE};
        SaltStreet x = new SaltStreet();
        for (int round = 0; round < 3; round++) {
            for (int what : others) {
                Checks.due("fault(" + what + ")", x.fault(what), -1);
            }
            if (round == 0) {
                Checks.refused(x, "STATUS 1", x.street(5), 1);
                Checks.refused(x, "STATUS 1", x.days(5), 1);
                Checks.due("ahead of any", x.fault(0), -1);
                Checks.due("ahead of any", x.fault(1), -1);
                Checks.good(x, "street(0)", x.street(0), 0);
            } else if (round == 1) {
                Checks.due("without one", x.fault(0), 0);
                Checks.due("without one", x.fault(1), -1);
                Checks.refused(x, "a FAULT", Checks.street(x, "!"), 9);
            }
        }
        Checks.due("a FAULT at the first byte", x.fault(0), 1);
        Checks.due("a FAULT at the first byte", x.fault(1), 0);
        Checks.refused(x, "STATUS 1", x.days(1), 1);
        Checks.due("of the latest with 0 or 9", x.fault(0), 1);
        Checks.due("fault() has no STATUS", x.status(), 1);
        Checks.refused(x, "a FAULT", Checks.days(x, "night"), 9);
        Checks.due("of days(), too", x.fault(0), 2);
        Checks.due("of days(), too", x.fault(1), 5);
        Checks.good(x, "days(0)", x.days(0), 0);
        Checks.due("without one", x.fault(0), 0);
        Checks.due("without one", x.fault(1), -1);
    }
}
