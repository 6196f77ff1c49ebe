/**
 * An object with something of everything in it, and all that can be asked of it: two that were made
 * alike answer alike, unless a call that was to change nothing changed one of them.
 */
final class Rich {
    /** HOUSES a b (c GONE) d e, QUARRELS p q r, a CAT, two GROCERS. */
    static final String STREET = "rain washes 3;house a salt 20 sugar 4;house b salt 7;house c gone;"
            + "house d salt 2 sugar 2;house e;quarrel p of a and b needs 4;quarrel q of b and c needs 2;"
            + "quarrel r of d and a needs 3;cat k from a to d takes 2;grocer g stock 50 price 3 sweet 5;"
            + "grocer i stock 9 price 2;";

    private static final int NONE_SUCH = -1;

    /** A call on an object. */
    interface Call {
        long on(SaltStreet x);
    }

    /** A call that answers true or false. */
    interface Asked {
        boolean on(SaltStreet x);
    }

    /** Makes an object anew, always the same. */
    interface Maker {
        SaltStreet make();
    }

    private Rich() {
    }

    /**
     * Behind it: a 18 SALT 4 SUGAR, b 18 and 5, d 4 and 2, e 3 and 0; p and r are OVER; DAY 1; STOCKS 34
     * and 9; one MARK; TRAYS 0 (32 bits, five numbers), 1 (8 bits, three), 3 (64 bits, none), 2 MISSING;
     * DAYS of two STEPS, lived through; the FRACTION 2 by 11; twenty bytes on the tape.
     */
    static SaltStreet make() {
        SaltStreet x = new SaltStreet();
        Checks.street(x, STREET);
        x.strew(4, 6);
        x.sweep(4);
        x.buy(0, 16, 1);
        x.mark();
        x.strew(4, 1);
        x.tray(0, 2, 5);
        x.write(0, 0, 3);
        x.write(0, 3, -70000);
        x.tray(1, 0, 3);
        x.write(1, 1, -1);
        x.tray(3, 3, 0);
        Checks.days(x, "strew e 2;night;");
        x.live(3);
        x.found(0, 1);
        Checks.feed(x, "house z salt 9;");
        return x;
    }

    /** All that can be asked; the DAYS, the MARKS and the tape are used up by asking. */
    static String all(SaltStreet x) {
        StringBuilder s = new StringBuilder(Checks.seen(x));
        s.append(" | live ").append(x.live(9)).append(" DAY ").append(x.told(4)).append(" e ").append(x.step(4, 0));
        for (int i = 0; i < 4; i++) {
            s.append(" | back ").append(x.back()).append(" e ").append(x.step(4, 0)).append(" STOCK ").append(x.grocer(0, 0));
            s.append(" OVER ").append(x.over()).append(" live ").append(x.live(0));
        }
        int taped = x.feed(0x20202020, 0x20202020, 0x20202020, 0x20202020, 0x20202020);
        s.append(" | tape ").append(taped).append(" street ").append(x.street(Math.min(15, Math.max(0, taped))));
        s.append(" fault ").append(x.fault(0)).append(" a ").append(x.step(0, 0)).append(" of ").append(x.told(0));
        return s.toString();
    }

    /** A call that is refused with a STATUS gives NONE and changes nothing else. */
    static void refuses(int status, String told, Call call) {
        refuses(Rich::make, status, told, call);
    }

    static void refuses(Maker maker, int status, String told, Call call) {
        SaltStreet one = maker.make();
        Checks.refused(one, told, call.on(one), status);
        Checks.due("nothing else is changed by " + told, all(one), all(maker.make()));
    }

    /** A call that is refused with a STATUS gives false and changes nothing else. */
    static void denies(int status, String told, Asked call) {
        denies(Rich::make, status, told, call);
    }

    static void denies(Maker maker, int status, String told, Asked call) {
        SaltStreet one = maker.make();
        Checks.refused(one, told, call.on(one), status);
        Checks.due("nothing else is changed by " + told, all(one), all(maker.make()));
    }

    /** A call that is granted, with its answer; STATUS was another one ahead of it. */
    static void answers(long want, String told, Call call) {
        SaltStreet x = make();
        x.told(NONE_SUCH);
        Checks.good(x, told, call.on(x), want);
    }

    static void grants(String told, Asked call) {
        SaltStreet x = make();
        x.told(NONE_SUCH);
        Checks.good(x, told, call.on(x));
    }

    /** A call that only asks: it changes nothing but STATUS. */
    static void asks(long want, String told, Call call) {
        answers(want, told, call);
        SaltStreet x = make();
        call.on(x);
        Checks.due("nothing is changed by " + told, all(x), all(make()));
    }
}
