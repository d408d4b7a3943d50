/** Promises 1 to 8 and the terms TRAYS, FRACTIONS, STATUS: boundary cases. */
public final class TrayEdgeTest {
    private static final Cases cases = new Cases("TrayEdgeTest");

    public static void main(String[] args) {
        newObject();
        status();
        fraction();
        tray();
        cut();
        places();
        pourWithin();
        pourOrder();
        cases.end();
    }

    private static void newObject() {
        cases.edge("1: STATUS 0", check -> check.due("status()", new SorryWalk().status(), 0));
        cases.edge("1: the FRACTION 0 by 1", check -> {
            check.due("top()", new SorryWalk().top(), 0);
            check.due("bottom()", new SorryWalk().bottom(), 1);
        });
        cases.edge("1: TRAYS are MISSING", check -> {
            SorryWalk x = new SorryWalk();
            for (int tray = 0; tray < 4; tray++) {
                check.denied(x, "write", x.write(tray, 0, 1), 2);
                check.denied(x, "pour", x.pour(tray, 0, tray, 0, 0), 2);
            }
        });
        cases.edge("1: an empty tape", check -> {
            SorryWalk x = new SorryWalk();
            check.refused(x, "land(1)", x.land(1), 1);
            check.refused(x, "tales(1)", x.tales(1), 1);
            check.due("feed", x.feed(0, 0, 0, 0, 0), 20);
        });
        cases.edge("1: a LAND of no HOUSES, PERSONS; NIGHT 0", check -> {
            SorryWalk x = new SorryWalk();
            for (int what = 0; what <= 9; what++) {
                check.gives(x, "told(" + what + ")", x.told(what), 0);
            }
        });
        cases.edge("1: no TALES", check -> {
            SorryWalk x = new SorryWalk();
            check.refused(x, "live(0)", x.live(0), 6);
            check.denied(x, "mean(0, 1)", x.mean(0, 1), 6);
            check.refused(x, "lived(0)", x.lived(0), 6);
        });
        cases.edge("1: no MARKS", check -> {
            SorryWalk x = new SorryWalk();
            check.refused(x, "undo()", x.undo(), 6);
            check.gives(x, "mark()", x.mark(), 1);
        });
        cases.edge("1: NIGHTS pass in an empty LAND", check -> {
            SorryWalk x = new SorryWalk();
            check.gives(x, "night(99)", x.night(99), 99);
            check.gives(x, "told(4)", x.told(4), 0);
        });
        cases.edge("1: one object has nothing of another", check -> {
            SorryWalk x = Texts.of("house a;person p in a;", "any;");
            x.tray(0, 0, 1);
            x.mark();
            x.live(0);
            SorryWalk y = new SorryWalk();
            check.refused(y, "read", y.read(0, 0), 2);
            check.refused(y, "live(0)", y.live(0), 6);
            check.refused(y, "lived(0)", y.lived(0), 6);
            check.refused(y, "undo()", y.undo(), 6);
            check.gives(y, "told(1)", y.told(1), 0);
            check.due("fault(0)", y.fault(0), -1);
        });
    }

    private static void status() {
        cases.edge("2: each STATUS that a call can have", check -> {
            SorryWalk x = Texts.of("house a;person p in a;");
            check.due("0", x.status(), 0);
            x.labour(1);
            check.due("1", x.status(), 1);
            x.read(0, 0);
            check.due("2", x.status(), 2);
            x.tray(0, 0, 0);
            check.due("0", x.status(), 0);
            x.read(0, 0);
            check.due("3", x.status(), 3);
            x.mark();
            x.mark();
            x.mark();
            x.mark();
            check.due("4", x.status(), 4);
            x.crowd();
            check.due("6", x.status(), 6);
            x.salt(0, false);
            check.due("7", x.status(), 7);
            x.tray(1, 1, 0);
            x.pour(0, 0, 1, 0, 0);
            check.due("8", x.status(), 8);
            Texts.land(x, "house");
            check.due("9", x.status(), 9);
        });
    }

    private static void fraction() {
        String land = "house a;person p in a dead;person q in a;";
        cases.edge("FRACTIONS: without a common divisor", check -> {
            SorryWalk x = Texts.of(land + "owes p q 66;owes q p 33;");
            check.yes(x, "weight()", x.weight());
            check.due("top()", x.top(), 2);
            check.due("bottom()", x.bottom(), 3);
        });
        cases.edge("FRACTIONS: one that has none stays", check -> {
            SorryWalk x = Texts.of(land + "owes p q 97;owes q p 89;");
            check.yes(x, "weight()", x.weight());
            check.due("top()", x.top(), 97);
            check.due("bottom()", x.bottom(), 186);
        });
        cases.edge("FRACTIONS: 0 is 0 by 1", check -> {
            SorryWalk x = Texts.of(land + "owes q p 33;");
            check.yes(x, "weight()", x.weight());
            check.due("top()", x.top(), 0);
            check.due("bottom()", x.bottom(), 1);
        });
        cases.edge("FRACTIONS: a whole is 1 by 1", check -> {
            SorryWalk x = Texts.of(land + "owes p q 99;");
            check.yes(x, "weight()", x.weight());
            check.due("top()", x.top(), 1);
            check.due("bottom()", x.bottom(), 1);
        });
        cases.edge("FRACTIONS: above 1", check -> {
            SorryWalk x = Texts.of(land + "owes p q 99;owes q p 98;", "stop;");
            check.yes(x, "mean(0, 20)", x.mean(0, 20));
            check.due("top()", x.top(), 197);
            check.due("bottom()", x.bottom(), 1);
        });
        cases.edge("3, 4: the one told latest, not behind a refused call", check -> {
            SorryWalk x = Texts.of(land + "owes p q 1;owes q p 1;");
            x.weight();
            x.mean(0, 1);
            x.mean(-1, 1);
            x.forgive(1, 0);
            check.due("top()", x.top(), 1);
            check.due("bottom()", x.bottom(), 2);
        });
    }

    private static void tray() {
        cases.edge("5: a row of 0 numbers", check -> {
            SorryWalk x = new SorryWalk();
            check.yes(x, "tray(0, 0, 0)", x.tray(0, 0, 0));
            check.refused(x, "read(0, 0)", x.read(0, 0), 3);
            check.denied(x, "write(0, 0, 1)", x.write(0, 0, 1), 3);
        });
        cases.edge("5: a row of 1 number", check -> {
            SorryWalk x = new SorryWalk();
            check.yes(x, "tray(3, 3, 1)", x.tray(3, 3, 1));
            check.gives(x, "read(3, 0)", x.read(3, 0), 0);
            check.refused(x, "read(3, 1)", x.read(3, 1), 3);
        });
        cases.edge("5: a row of 60 numbers, of each sort", check -> {
            for (int sort = 0; sort < 4; sort++) {
                SorryWalk x = new SorryWalk();
                check.yes(x, "tray", x.tray(1, sort, 60));
                check.yes(x, "write(1, 59, 5)", x.write(1, 59, 5));
                check.gives(x, "read(1, 59)", x.read(1, 59), 5);
                check.refused(x, "read(1, 60)", x.read(1, 60), 3);
            }
        });
        cases.edge("5: 61 numbers are too many", check -> {
            SorryWalk x = new SorryWalk();
            check.denied(x, "tray(0, 0, 61)", x.tray(0, 0, 61), 1);
            check.refused(x, "it is MISSING still", x.read(0, 0), 2);
        });
        cases.edge("5: laid anew it is a row of 0s", check -> {
            SorryWalk x = new SorryWalk();
            x.tray(2, 3, 4);
            x.write(2, 0, 8);
            x.write(2, 3, 9);
            check.yes(x, "tray(2, 3, 4)", x.tray(2, 3, 4));
            check.gives(x, "read(2, 0)", x.read(2, 0), 0);
            check.gives(x, "read(2, 3)", x.read(2, 3), 0);
        });
        cases.edge("5: laid shorter, then longer, the old numbers are gone", check -> {
            SorryWalk x = new SorryWalk();
            x.tray(2, 3, 4);
            x.write(2, 3, 9);
            x.tray(2, 3, 1);
            x.tray(2, 3, 4);
            check.gives(x, "read(2, 3)", x.read(2, 3), 0);
        });
        cases.edge("5: laid of 0 numbers it has no place any more", check -> {
            SorryWalk x = new SorryWalk();
            x.tray(2, 3, 4);
            x.tray(2, 3, 0);
            check.refused(x, "read(2, 0)", x.read(2, 0), 3);
        });
    }

    private static void cutTo(int sort, long v, long kept) {
        cases.edge("6: " + v + " cut to sort " + sort, check -> {
            SorryWalk x = new SorryWalk();
            x.tray(0, sort, 3);
            check.yes(x, "write", x.write(0, 1, v));
            check.gives(x, "read", x.read(0, 1), kept);
            check.gives(x, "the place ahead", x.read(0, 0), 0);
            check.gives(x, "the place behind", x.read(0, 2), 0);
        });
    }

    private static void cut() {
        cutTo(0, 127, 127);
        cutTo(0, 128, -128);
        cutTo(0, 255, -1);
        cutTo(0, 256, 0);
        cutTo(0, -128, -128);
        cutTo(0, -129, 127);
        cutTo(0, Long.MIN_VALUE, 0);
        cutTo(0, Long.MAX_VALUE, -1);
        cutTo(1, 32767, 32767);
        cutTo(1, 32768, -32768);
        cutTo(1, 65535, -1);
        cutTo(1, 65536, 0);
        cutTo(1, -32769, 32767);
        cutTo(2, Integer.MAX_VALUE, Integer.MAX_VALUE);
        cutTo(2, Integer.MAX_VALUE + 1L, Integer.MIN_VALUE);
        cutTo(2, 0xFFFFFFFFL, -1);
        cutTo(2, 0x100000000L, 0);
        cutTo(2, Integer.MIN_VALUE - 1L, Integer.MAX_VALUE);
        cutTo(3, Long.MAX_VALUE, Long.MAX_VALUE);
        cutTo(3, Long.MIN_VALUE, Long.MIN_VALUE);
        cutTo(3, 0x100000000L, 0x100000000L);
    }

    private static void places() {
        for (int place : new int[] {-1, 3, 60, Integer.MIN_VALUE, Integer.MAX_VALUE}) {
            cases.edge("6, 7: no place " + place + " in a TRAY of 3", check -> {
                SorryWalk x = new SorryWalk();
                x.tray(0, 2, 3);
                check.denied(x, "write", x.write(0, place, 5), 3);
                check.refused(x, "read", x.read(0, place), 3);
            });
            cases.edge("6, 7: 2 is ahead of 3, place " + place, check -> {
                SorryWalk x = new SorryWalk();
                check.denied(x, "write", x.write(0, place, 5), 2);
                check.refused(x, "read", x.read(0, place), 2);
            });
            cases.edge("6, 7: 1 is ahead of 3, place " + place, check -> {
                SorryWalk x = new SorryWalk();
                check.denied(x, "write", x.write(4, place, 5), 1);
                check.refused(x, "read", x.read(-1, place), 1);
            });
        }
        cases.edge("7: STATUS tells NONE from -1", check -> {
            for (int sort = 0; sort < 4; sort++) {
                SorryWalk x = new SorryWalk();
                x.tray(0, sort, 1);
                x.write(0, 0, -1);
                check.gives(x, "-1", x.read(0, 0), -1);
                check.refused(x, "NONE", x.read(0, 1), 3);
            }
        });
    }

    private static SorryWalk twoTrays(int first, int second) {
        SorryWalk x = new SorryWalk();
        x.tray(0, 1, first);
        x.tray(1, 1, second);
        for (int i = 0; i < first; i++) {
            x.write(0, i, 10 + i);
        }
        for (int i = 0; i < second; i++) {
            x.write(1, i, 90 + i);
        }
        return x;
    }

    private static void row(Check check, SorryWalk x, int tray, long... want) {
        for (int i = 0; i < want.length; i++) {
            check.gives(x, "read(" + tray + ", " + i + ")", x.read(tray, i), want[i]);
        }
        check.refused(x, "read(" + tray + ", " + want.length + ")", x.read(tray, want.length), 3);
    }

    private static void pourWithin() {
        cases.edge("8: into its own place on, forward: as they were", check -> {
            SorryWalk x = twoTrays(5, 0);
            check.yes(x, "pour", x.pour(0, 0, 0, 1, 4));
            row(check, x, 0, 10, 10, 11, 12, 13);
        });
        cases.edge("8: into its own place on, backward: as they were", check -> {
            SorryWalk x = twoTrays(5, 0);
            check.yes(x, "pour", x.pour(0, 1, 0, 0, 4));
            row(check, x, 0, 11, 12, 13, 14, 14);
        });
        cases.edge("8: into the very same place", check -> {
            SorryWalk x = twoTrays(3, 0);
            check.yes(x, "pour", x.pour(0, 0, 0, 0, 3));
            row(check, x, 0, 10, 11, 12);
        });
        cases.edge("8: all numbers of a TRAY", check -> {
            SorryWalk x = twoTrays(3, 3);
            check.yes(x, "pour", x.pour(0, 0, 1, 0, 3));
            row(check, x, 1, 10, 11, 12);
            row(check, x, 0, 10, 11, 12);
        });
        cases.edge("8: the last into the last", check -> {
            SorryWalk x = twoTrays(3, 2);
            check.yes(x, "pour", x.pour(0, 2, 1, 1, 1));
            row(check, x, 1, 90, 12);
        });
        cases.edge("8: 60 numbers", check -> {
            SorryWalk x = twoTrays(60, 60);
            check.yes(x, "pour", x.pour(0, 0, 1, 0, 60));
            for (int i = 0; i < 60; i++) {
                check.gives(x, "read", x.read(1, i), 10 + i);
            }
        });
        cases.edge("8: 0 numbers", check -> {
            SorryWalk x = twoTrays(3, 2);
            check.yes(x, "pour", x.pour(0, 1, 1, 1, 0));
            row(check, x, 0, 10, 11, 12);
            row(check, x, 1, 90, 91);
        });
        cases.edge("8: 0 numbers of a TRAY of none", check -> {
            SorryWalk x = twoTrays(0, 0);
            check.yes(x, "pour", x.pour(0, 0, 1, 0, 0));
            check.denied(x, "but not 1", x.pour(0, 0, 1, 0, 1), 3);
        });
        cases.edge("8: numbers below 0 of each sort", check -> {
            for (int sort = 0; sort < 4; sort++) {
                SorryWalk x = new SorryWalk();
                x.tray(0, sort, 1);
                x.tray(1, sort, 1);
                x.write(0, 0, -2);
                check.yes(x, "pour", x.pour(0, 0, 1, 0, 1));
                check.gives(x, "read", x.read(1, 0), -2);
            }
        });
    }

    private static void poured(String sentence, int status, int... numbers) {
        cases.edge("8: " + sentence, check -> {
            SorryWalk x = twoTrays(4, 3);
            x.tray(2, 3, 4);
            check.denied(x, "pour", x.pour(numbers[0], numbers[1], numbers[2], numbers[3], numbers[4]), status);
            row(check, x, 0, 10, 11, 12, 13);
            row(check, x, 1, 90, 91, 92);
            row(check, x, 2, 0, 0, 0, 0);
        });
    }

    private static void pourOrder() {
        poured("too few to take: 1 beyond", 3, 0, 2, 1, 0, 3);
        poured("too few to fill: 1 beyond", 3, 0, 0, 1, 1, 3);
        poured("a place that it has not, to take", 3, 0, 4, 1, 0, 1);
        poured("a place that it has not, to fill", 3, 0, 0, 1, 3, 1);
        poured("a sum that wraps around, to take", 3, 0, Integer.MAX_VALUE, 1, 0, 1);
        poured("a sum that wraps around, to fill", 3, 0, 0, 1, Integer.MAX_VALUE, 1);
        poured("so many that the sum wraps around", 3, 0, 1, 1, 1, Integer.MAX_VALUE);
        poured("0 numbers from far behind", 3, 0, 5, 1, 0, 0);
        poured("0 numbers to far behind", 3, 0, 0, 1, 4, 0);
        poured("1: a place below 0", 1, 0, -1, 1, 0, 1);
        poured("1: the other place below 0", 1, 0, 0, 1, -1, 1);
        poured("1: how many below 0", 1, 0, 0, 1, 0, -1);
        poured("1 ahead of 2", 1, 3, -1, 0, 0, 1);
        poured("1 ahead of 2, the other TRAY", 1, 0, 0, 3, -1, 1);
        poured("1, no such TRAY, ahead of 2", 1, 3, 0, 4, 0, 1);
        poured("1 ahead of 8", 1, 0, 0, 2, 0, -1);
        poured("1 ahead of 3", 1, 0, 9, 1, 0, -1);
        poured("2 ahead of 3", 2, 0, 9, 3, 0, 1);
        poured("2 ahead of 3, the other TRAY", 2, 3, 0, 0, 9, 1);
        poured("8 ahead of 3", 8, 0, 9, 2, 0, 1);
        poured("8, also for 0 numbers", 8, 0, 0, 2, 0, 0);
    }
}
