import java.nio.charset.StandardCharsets;

/** What the tests share: comparing answers, feeding texts, telling how it went. */
final class Checks {
    private static int right;
    private static int wrong;

    private Checks() {
    }

    static void due(String call, long got, long want) {
        if (got == want) {
            right++;
            return;
        }
        wrong++;
        if (wrong <= 50) {
            System.out.println(call + " answered " + got + ", due is " + want);
        }
    }

    static void due(String call, boolean got, boolean want) {
        due(call, got ? 1 : 0, want ? 1 : 0);
    }

    static void due(String call, String got, String want) {
        if (!got.equals(want)) {
            System.out.println("  got:  " + got + "\n  want: " + want);
        }
        due(call, got.equals(want), true);
    }

    /** An answer of a call that must have STATUS 0. */
    static void good(SaltStreet x, String call, long got, long want) {
        due(call, got, want);
        due("status() behind " + call, x.status(), 0);
    }

    static void good(SaltStreet x, String call, boolean got) {
        good(x, call, got ? 1 : 0, 1);
    }

    /** A call that must be refused with a STATUS. */
    static void refused(SaltStreet x, String call, long got, int status) {
        due(call, got, SaltStreet.NONE);
        due("status() behind " + call, x.status(), status);
    }

    static void refused(SaltStreet x, String call, boolean got, int status) {
        due(call, got, false);
        due("status() behind " + call, x.status(), status);
    }

    static void fraction(SaltStreet x, String call, long top, long bottom) {
        due("top() behind " + call, x.top(), top);
        due("bottom() behind " + call, x.bottom(), bottom);
    }

    static int feed(SaltStreet x, String text) {
        byte[] bytes = text.getBytes(StandardCharsets.ISO_8859_1);
        for (int i = 0; i < bytes.length; i += 20) {
            x.feed(four(bytes, i), four(bytes, i + 4), four(bytes, i + 8), four(bytes, i + 12), four(bytes, i + 16));
        }
        return bytes.length;
    }

    private static int four(byte[] bytes, int from) {
        int v = 0;
        for (int i = from; i < from + 4; i++) {
            v = v << 8 | (i < bytes.length ? bytes[i] & 255 : 0);
        }
        return v;
    }

    static int street(SaltStreet x, String text) {
        return x.street(feed(x, text));
    }

    static int days(SaltStreet x, String text) {
        return x.days(feed(x, text));
    }

    /** A new object with a STREET that must be taken. */
    static SaltStreet made(String text) {
        SaltStreet x = new SaltStreet();
        street(x, text);
        due("status() behind street " + text, x.status(), 0);
        return x;
    }

    static void faultyStreet(String text, int kind, int place) {
        SaltStreet x = new SaltStreet();
        refused(x, "street " + text, street(x, text), 9);
        due("fault(0) of " + text, x.fault(0), kind);
        due("fault(1) of " + text, x.fault(1), place);
    }

    static void faultyDays(String street, String text, int kind, int place) {
        SaltStreet x = made(street);
        refused(x, "days " + text, days(x, text), 9);
        due("fault(0) of " + text, x.fault(0), kind);
        due("fault(1) of " + text, x.fault(1), place);
    }

    /** All that can be asked without changing anything, but for STATUS. */
    static String seen(SaltStreet x) {
        StringBuilder s = new StringBuilder();
        s.append("fault ").append(x.fault(0)).append(' ').append(x.fault(1));
        s.append(" fraction ").append(x.top()).append('/').append(x.bottom()).append(" told");
        for (int what = 0; what <= 10; what++) {
            s.append(' ').append(x.told(what));
        }
        s.append(" purse ").append(x.purse());
        for (int h = 0; h < x.told(0); h++) {
            s.append(" house");
            for (int what = 0; what <= 3; what++) {
                s.append(' ').append(x.step(h, what));
            }
        }
        for (int q = 0; q < x.told(1); q++) {
            s.append(" quarrel");
            for (int what = 0; what <= 4; what++) {
                s.append(' ').append(x.quarrel(q, what));
            }
        }
        for (int c = 0; c < x.told(2); c++) {
            s.append(" cat ").append(x.cat(c, 0)).append(' ').append(x.cat(c, 1)).append(' ').append(x.cat(c, 2));
        }
        for (int g = 0; g < x.told(3); g++) {
            s.append(" grocer");
            for (int what = 0; what <= 2; what++) {
                s.append(' ').append(x.grocer(g, what));
            }
        }
        s.append(" lived");
        for (int what = 0; what <= 4; what++) {
            s.append(' ').append(x.lived(what));
        }
        return s.append(trays(x)).toString();
    }

    private static String trays(SaltStreet x) {
        StringBuilder s = new StringBuilder();
        for (int t = 0; t < 4; t++) {
            s.append(" tray");
            for (int place = 0; place < 61; place++) {
                long v = x.read(t, place);
                if (x.status() != 0) {
                    s.append(" status ").append(x.status());
                    break;
                }
                s.append(' ').append(v);
            }
        }
        return s.toString();
    }

    static void finish() {
        System.out.println(right + " checks right, " + wrong + " wrong");
        if (wrong != 0 || right == 0) {
            System.exit(1);
        }
    }
}
