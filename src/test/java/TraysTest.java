/** Promises 1 to 8: a new object, STATUS, the FRACTION, TRAYS. */
public final class TraysTest {
    private static final int NONE = SaltStreet.NONE;

    public static void main(String[] args) {
        newObject();
        tray();
        write();
        readTellsNone();
        pour();
        pourRefused();
        Checks.finish();
    }

    private static void newObject() {
        SaltStreet x = new SaltStreet();
        Checks.due("NONE", SaltStreet.NONE, -1);
        Checks.due("status()", x.status(), 0);
        Checks.fraction(x, "new", 0, 1);
        Checks.due("fault(0)", x.fault(0), NONE);
        Checks.due("fault(1)", x.fault(1), NONE);
        for (int what = 0; what <= 10; what++) {
            Checks.good(x, "told(" + what + ")", x.told(what), 0);
        }
        Checks.good(x, "purse()", x.purse(), 0);
        for (int t = 0; t < 4; t++) {
            Checks.refused(x, "read of a MISSING one", x.read(t, 0), 2);
        }
        Checks.refused(x, "back()", x.back(), 6);
        Checks.refused(x, "live(0)", x.live(0), 6);
        Checks.refused(x, "street(1) of an empty tape", x.street(1), 1);
        Checks.good(x, "most()", x.most(), 0);
        Checks.good(x, "level()", x.level(), 0);
        Checks.good(x, "thawAll()", x.thawAll(), 0);
        Checks.due("feed", x.feed(0, 0, 0, 0, 0), 20);
    }

    private static void tray() {
        SaltStreet x = new SaltStreet();
        Checks.good(x, "tray(0, 0, 0)", x.tray(0, 0, 0));
        Checks.refused(x, "read of an empty one", x.read(0, 0), 3);
        Checks.good(x, "tray(3, 3, 60)", x.tray(3, 3, 60));
        Checks.good(x, "read(3, 59)", x.read(3, 59), 0);
        Checks.refused(x, "read(3, 60)", x.read(3, 60), 3);
        Checks.refused(x, "tray(-1, 0, 1)", x.tray(-1, 0, 1), 1);
        Checks.refused(x, "tray(4, 0, 1)", x.tray(4, 0, 1), 1);
        Checks.refused(x, "tray(0, -1, 1)", x.tray(0, -1, 1), 1);
        Checks.refused(x, "tray(0, 4, 1)", x.tray(0, 4, 1), 1);
        Checks.refused(x, "tray(0, 0, -1)", x.tray(0, 0, -1), 1);
        Checks.refused(x, "tray(0, 0, 61)", x.tray(0, 0, 61), 1);
        Checks.refused(x, "tray(1, 0, 61)", x.tray(1, 0, 61), 1);
        Checks.refused(x, "it is MISSING yet", x.read(1, 0), 2);
        for (int i = 0; i < 60; i++) {
            x.write(3, i, 7);
        }
        Checks.good(x, "tray(3, 3, 60) anew", x.tray(3, 3, 60));
        for (int i = 0; i < 60; i++) {
            Checks.good(x, "a row of 0s", x.read(3, i), 0);
        }
        x.write(3, 5, 7);
        Checks.good(x, "tray(3, 3, 6) anew", x.tray(3, 3, 6));
        Checks.good(x, "a row of 0s", x.read(3, 5), 0);
        Checks.refused(x, "read(3, 6)", x.read(3, 6), 3);
        x.write(3, 5, 7);
        Checks.refused(x, "tray(3, 9, 6)", x.tray(3, 9, 6), 1);
        Checks.good(x, "nothing has changed", x.read(3, 5), 7);
    }

    private static void write() {
        SaltStreet x = new SaltStreet();
        for (int sort = 0; sort < 4; sort++) {
            x.tray(sort, sort, 2);
        }
        long v = 0x1234567890ABCDEFL;
        long[] cut = {(byte) v, (short) v, (int) v, v};
        for (int sort = 0; sort < 4; sort++) {
            Checks.good(x, "write", x.write(sort, 1, v));
            Checks.good(x, "read behind write of sort " + sort, x.read(sort, 1), cut[sort]);
            Checks.good(x, "its neighbour", x.read(sort, 0), 0);
        }
        x.write(0, 0, 127);
        Checks.good(x, "127 of 8 bits", x.read(0, 0), 127);
        x.write(0, 0, 128);
        Checks.good(x, "128 of 8 bits", x.read(0, 0), -128);
        x.write(1, 0, 65536 + 5);
        Checks.good(x, "16 bits", x.read(1, 0), 5);
        Checks.refused(x, "write(-1, 0, 1)", x.write(-1, 0, 1), 1);
        Checks.refused(x, "write(4, 0, 1)", x.write(4, 0, 1), 1);
        Checks.refused(x, "write(0, 2, 1)", x.write(0, 2, 1), 3);
        Checks.refused(x, "write(0, -1, 1)", x.write(0, -1, 1), 3);
        SaltStreet y = new SaltStreet();
        Checks.refused(y, "write of a MISSING one", y.write(0, 99, 1), 2);
    }

    private static void readTellsNone() {
        SaltStreet x = new SaltStreet();
        x.tray(2, 3, 1);
        x.write(2, 0, -1);
        Checks.good(x, "read of -1", x.read(2, 0), -1);
        Checks.refused(x, "read(2, 1)", x.read(2, 1), 3);
        Checks.refused(x, "read(2, -1)", x.read(2, -1), 3);
        Checks.refused(x, "read(-1, 0)", x.read(-1, 0), 1);
        Checks.refused(x, "read(4, 0)", x.read(4, 0), 1);
    }

    private static void pour() {
        SaltStreet x = new SaltStreet();
        x.tray(0, 1, 5);
        x.tray(1, 1, 3);
        for (int i = 0; i < 5; i++) {
            x.write(0, i, 10 + i);
        }
        Checks.good(x, "pour to another", x.pour(0, 2, 1, 0, 3));
        Checks.good(x, "read(1, 0)", x.read(1, 0), 12);
        Checks.good(x, "read(1, 2)", x.read(1, 2), 14);
        Checks.good(x, "pour to itself, up", x.pour(0, 0, 0, 1, 4));
        long[] up = {10, 10, 11, 12, 13};
        for (int i = 0; i < 5; i++) {
            Checks.good(x, "as they were, up " + i, x.read(0, i), up[i]);
        }
        Checks.good(x, "pour to itself, down", x.pour(0, 1, 0, 0, 4));
        long[] down = {10, 11, 12, 13, 13};
        for (int i = 0; i < 5; i++) {
            Checks.good(x, "as they were, down " + i, x.read(0, i), down[i]);
        }
        Checks.good(x, "pour of none", x.pour(0, 5, 1, 3, 0));
    }

    private static void pourRefused() {
        SaltStreet x = new SaltStreet();
        x.tray(0, 1, 5);
        x.tray(1, 1, 3);
        x.tray(2, 2, 3);
        Checks.refused(x, "from -1", x.pour(-1, 0, 1, 0, 1), 1);
        Checks.refused(x, "from 4", x.pour(4, 0, 1, 0, 1), 1);
        Checks.refused(x, "to -1", x.pour(0, 0, -1, 0, 1), 1);
        Checks.refused(x, "to 4", x.pour(0, 0, 4, 0, 1), 1);
        Checks.refused(x, "place -1", x.pour(0, -1, 1, 0, 1), 1);
        Checks.refused(x, "at -1", x.pour(0, 0, 1, -1, 1), 1);
        Checks.refused(x, "many -1, ahead of MISSING", x.pour(0, 0, 3, 0, -1), 1);
        Checks.refused(x, "MISSING", x.pour(0, 9, 3, 0, 1), 2);
        Checks.refused(x, "MISSING", x.pour(3, 9, 0, 0, 1), 2);
        Checks.refused(x, "unlike sorts, ahead of places", x.pour(0, 9, 2, 0, 1), 8);
        Checks.refused(x, "too few in it", x.pour(0, 3, 1, 0, 3), 3);
        Checks.refused(x, "too few in the other", x.pour(0, 0, 1, 1, 3), 3);
        Checks.refused(x, "many of the greatest", x.pour(0, 1, 1, 0, Integer.MAX_VALUE), 3);
        Checks.refused(x, "place of the greatest", x.pour(0, Integer.MAX_VALUE, 1, 0, 1), 3);
    }
}
