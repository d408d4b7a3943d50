/** Promises 1 to 8: a new object, status, fractions, TRAYS. */
public final class TrayTest {
    private static final Check check = new Check("TrayTest");

    public static void main(String[] args) {
        promise1NewObject();
        promise2Status();
        promises3And4Fraction();
        promise5Tray();
        promise6Write();
        promise7Read();
        promise8Pour();
        promise8PourOrder();
        check.end();
    }

    private static void promise1NewObject() {
        SorryWalk x = new SorryWalk();
        check.due("status()", x.status(), 0);
        check.due("top()", x.top(), 0);
        check.due("bottom()", x.bottom(), 1);
        check.due("fault(0)", x.fault(0), -1);
        for (int what = 0; what < 10; what++) {
            check.gives(x, "told(" + what + ")", x.told(what), 0);
        }
        for (int tray = 0; tray < 4; tray++) {
            check.refused(x, "read", x.read(tray, 0), 2);
        }
        check.refused(x, "land(1)", x.land(1), 1);
        check.refused(x, "live(0)", x.live(0), 6);
        check.refused(x, "undo()", x.undo(), 6);
        check.refused(x, "labour(0)", x.labour(0), 1);
        check.refused(x, "person(0, 0)", x.person(0, 0), 1);
        check.gives(x, "night(1)", x.night(1), 1);
    }

    private static void promise2Status() {
        SorryWalk x = new SorryWalk();
        x.told(10);
        check.due("status()", x.status(), 1);
        x.top();
        x.bottom();
        x.feed(0, 0, 0, 0, 0);
        x.fault(7);
        x.status();
        check.due("status() behind calls that have none", x.status(), 1);
        x.told(0);
        check.due("status()", x.status(), 0);
        x.undo();
        check.due("status()", x.status(), 6);
        x.lonely();
        check.due("status()", x.status(), 0);
    }

    private static void promises3And4Fraction() {
        SorryWalk x = Texts.of("house a;person p in a dead;person q in a;owes p q 6;owes q p 4;");
        check.due("top()", x.top(), 0);
        check.due("bottom()", x.bottom(), 1);
        check.yes(x, "weight()", x.weight());
        check.due("top()", x.top(), 3);
        check.due("bottom()", x.bottom(), 5);
        x.told(99);
        check.due("top() stays", x.top(), 3);
        Texts.land(x, "house a;person p in a dead;");
        check.denied(x, "weight()", x.weight(), 6);
        check.due("top() stays", x.top(), 3);
        check.due("bottom() stays", x.bottom(), 5);
        Texts.land(x, "house a;person p in a dead;person q in a;owes q p 4;");
        check.yes(x, "weight()", x.weight());
        check.due("top()", x.top(), 0);
        check.due("bottom()", x.bottom(), 1);
    }

    private static void promise5Tray() {
        SorryWalk x = new SorryWalk();
        check.yes(x, "tray(0, 0, 60)", x.tray(0, 0, 60));
        check.yes(x, "tray(3, 3, 0)", x.tray(3, 3, 0));
        check.denied(x, "tray(-1, 0, 1)", x.tray(-1, 0, 1), 1);
        check.denied(x, "tray(4, 0, 1)", x.tray(4, 0, 1), 1);
        check.denied(x, "tray(0, -1, 1)", x.tray(0, -1, 1), 1);
        check.denied(x, "tray(0, 4, 1)", x.tray(0, 4, 1), 1);
        check.denied(x, "tray(0, 0, -1)", x.tray(0, 0, -1), 1);
        check.denied(x, "tray(0, 0, 61)", x.tray(0, 0, 61), 1);
        for (int i = 0; i < 60; i++) {
            check.gives(x, "read(0, " + i + ")", x.read(0, i), 0);
        }
        check.refused(x, "read(3, 0)", x.read(3, 0), 3);
        x.write(0, 5, 77);
        check.yes(x, "tray(0, 2, 6)", x.tray(0, 2, 6));
        check.gives(x, "read(0, 5)", x.read(0, 5), 0);
        check.refused(x, "read(0, 6)", x.read(0, 6), 3);
        x.write(0, 5, 88);
        check.denied(x, "tray(0, 4, 3)", x.tray(0, 4, 3), 1);
        check.gives(x, "read(0, 5) stays", x.read(0, 5), 88);
    }

    private static void promise6Write() {
        SorryWalk x = new SorryWalk();
        check.denied(x, "write(4, 0, 1)", x.write(4, 0, 1), 1);
        check.denied(x, "write(-1, 0, 1)", x.write(-1, 0, 1), 1);
        check.denied(x, "write(0, 0, 1)", x.write(0, 0, 1), 2);
        check.denied(x, "write(0, -1, 1)", x.write(0, -1, 1), 2);
        long v = 0x123456789ABCDEF0L;
        long[] cut = {(byte) 0xF0, (short) 0xDEF0, 0x9ABCDEF0, v};
        for (int sort = 0; sort < 4; sort++) {
            x.tray(sort, sort, 2);
            check.yes(x, "write", x.write(sort, 1, v));
            check.gives(x, "read of sort " + sort, x.read(sort, 1), cut[sort]);
            check.gives(x, "read of sort " + sort, x.read(sort, 0), 0);
            check.denied(x, "write(2)", x.write(sort, 2, v), 3);
            check.denied(x, "write(-1)", x.write(sort, -1, v), 3);
            check.denied(x, "write(max)", x.write(sort, Integer.MAX_VALUE, v), 3);
            check.yes(x, "write(127)", x.write(sort, 0, 127));
            check.gives(x, "read(127)", x.read(sort, 0), 127);
        }
    }

    private static void promise7Read() {
        SorryWalk x = new SorryWalk();
        check.refused(x, "read(-1, 0)", x.read(-1, 0), 1);
        check.refused(x, "read(4, 0)", x.read(4, 0), 1);
        check.refused(x, "read(2, 0)", x.read(2, 0), 2);
        x.tray(2, 3, 3);
        check.refused(x, "read(2, 3)", x.read(2, 3), 3);
        check.refused(x, "read(2, -1)", x.read(2, -1), 3);
        x.write(2, 1, -1);
        check.gives(x, "read(2, 1)", x.read(2, 1), -1);
        x.write(2, 2, Long.MIN_VALUE);
        check.gives(x, "read(2, 2)", x.read(2, 2), Long.MIN_VALUE);
    }

    private static void promise8Pour() {
        SorryWalk x = new SorryWalk();
        x.tray(0, 1, 6);
        x.tray(1, 1, 4);
        for (int i = 0; i < 6; i++) {
            x.write(0, i, i + 1);
        }
        check.yes(x, "pour(0, 0, 0, 1, 4)", x.pour(0, 0, 0, 1, 4));
        row(x, 0, 1, 1, 2, 3, 4, 6);
        check.yes(x, "pour(0, 2, 0, 0, 4)", x.pour(0, 2, 0, 0, 4));
        row(x, 0, 2, 3, 4, 6, 4, 6);
        check.yes(x, "pour(0, 3, 1, 1, 3)", x.pour(0, 3, 1, 1, 3));
        row(x, 1, 0, 6, 4, 6);
        row(x, 0, 2, 3, 4, 6, 4, 6);
        check.yes(x, "pour(0, 2, 1, 3, 0)", x.pour(0, 2, 1, 3, 0));
        row(x, 1, 0, 6, 4, 6);
        check.yes(x, "a whole TRAY", x.pour(1, 0, 0, 2, 4));
        row(x, 0, 2, 3, 0, 6, 4, 6);
        x.tray(3, 0, 1);
        check.yes(x, "the one place of a TRAY", x.write(3, 0, 9));
        row(x, 3, 9);
    }

    private static void row(SorryWalk x, int tray, long... want) {
        for (int i = 0; i < want.length; i++) {
            check.gives(x, "read(" + tray + ", " + i + ")", x.read(tray, i), want[i]);
        }
    }

    private static void promise8PourOrder() {
        SorryWalk x = new SorryWalk();
        x.tray(0, 1, 6);
        x.tray(1, 2, 4);
        x.tray(2, 1, 4);
        check.denied(x, "pour(4..)", x.pour(4, 0, 0, 0, 1), 1);
        check.denied(x, "pour(.. 4 ..)", x.pour(0, 0, 4, 0, 1), 1);
        check.denied(x, "pour(-1 ..)", x.pour(-1, 0, 0, 0, 1), 1);
        check.denied(x, "pour(.. -1 ..)", x.pour(0, 0, -1, 0, 1), 1);
        check.denied(x, "pour place below 0, MISSING too", x.pour(0, -1, 3, 0, 1), 1);
        check.denied(x, "pour at below 0, MISSING too", x.pour(3, 0, 0, -1, 1), 1);
        check.denied(x, "pour many below 0", x.pour(0, 0, 2, 0, -1), 1);
        check.denied(x, "pour from MISSING", x.pour(3, 0, 0, 0, 99), 2);
        check.denied(x, "pour to MISSING", x.pour(0, 99, 3, 0, 1), 2);
        check.denied(x, "pour unlike ahead of 3", x.pour(0, 99, 1, 0, 1), 8);
        check.denied(x, "pour too few in from", x.pour(0, 4, 2, 0, 3), 3);
        check.denied(x, "pour too few in to", x.pour(0, 0, 2, 2, 3), 3);
        check.denied(x, "pour far", x.pour(0, Integer.MAX_VALUE, 2, 0, Integer.MAX_VALUE), 3);
        check.denied(x, "pour far many", x.pour(0, 1, 2, 1, Integer.MAX_VALUE), 3);
        check.denied(x, "pour none from far away", x.pour(0, 7, 2, 0, 0), 3);
    }
}
