/** Promises 67 to 71: TALES as they are LIVED, means, MARKS. */
public final class TalesTest {
    private static final Check check = new Check("TalesTest");
    private static final String LAND = "house a;house b;door a b;person p in a;person q in b;person r in b;person s in a dead;"
        + "owes p q 5;owes s r 3;owes q p 2;";

    public static void main(String[] args) {
        promise67Live();
        promise67Steps();
        promise67Tests();
        promise67Loops();
        promise67Limit();
        promise67Draws();
        promise68Lived();
        promise68Missed();
        promise68NightLimit();
        promise69Mean();
        promise70Mark();
        promise71Undo();
        promise71UndoTakesBack();
        check.end();
    }

    private static void lived(SorryWalk x, int missed, int nights, int said, int deaths, int left) {
        check.gives(x, "lived(0)", x.lived(0), missed);
        check.gives(x, "lived(1)", x.lived(1), nights);
        check.gives(x, "lived(2)", x.lived(2), said);
        check.gives(x, "lived(3)", x.lived(3), deaths);
        check.gives(x, "lived(4)", x.lived(4), left);
    }

    private static void promise67Live() {
        SorryWalk x = Texts.of(LAND);
        check.refused(x, "no TALES", x.live(0), 6);
        check.refused(x, "1 ahead of 6", x.live(-1), 1);
        Texts.tales(x, "night 2;");
        check.refused(x, "live(10000)", x.live(10000), 1);
        check.refused(x, "live(-1)", x.live(-1), 1);
        check.gives(x, "live(9999)", x.live(9999), 1);
        check.due("all is as it is then", x.told(3), 2);
        check.due("s walked and said", x.owed(3, 2), 2);
        check.gives(x, "live(0)", x.live(0), 1);
        check.due("all is as it is then", x.told(3), 4);
        Texts.tales(x, "");
        check.gives(x, "TALES of no STEPS", x.live(0), 0);
        Texts.land(x, LAND);
        check.refused(x, "a new LAND has no TALES", x.live(0), 6);
    }

    private static void promise67Steps() {
        SorryWalk x = Texts.of(LAND, "die p;forgive r s;salt a;forge s to q 9;night 3;sweep a;stop;die q;");
        check.gives(x, "live(0)", x.live(0), 7);
        check.due("p is DEAD, q lives", x.told(7), 9);
        check.due("what p was owed is gone", x.owed(1, 0), 0);
        check.due("r forgave", x.owed(3, 2), 0);
        check.due("forged, and said twice", x.owed(3, 1), 7);
        check.due("p said twice", x.owed(0, 1), 3);
        check.due("SALT", x.told(6), 0);
        lived(x, 0, 3, 4, 1, 0);
    }

    private static void promise67Tests() {
        String land = "house a;house b;door a b;person p in a dead;person q in b keeps;person r in a;owes p q 1;";
        int[][] want = {{1, 0, 0}, {0, 1, 0}, {0, 0, 1}};
        String[] signs = {"<", "=", ">"};
        for (int labour = 0; labour < 3; labour++) {
            for (int k = 0; k < 3; k++) {
                SorryWalk x = Texts.of(land, "when labour b" + signs[k] + "1;salt a;end;sweep b;");
                x.night(labour + 1);
                check.due("labour", x.labour(1), labour);
                check.gives(x, "live(0)", x.live(0), 2 + want[labour][k]);
                check.due("told(6)", x.told(6), want[labour][k]);
            }
        }
        SorryWalk x = Texts.of(land, "when rest p;salt a;end;when rest r;salt b;end;");
        check.gives(x, "live(0)", x.live(0), 3);
        check.due("told(6)", x.told(6), 2);
        x = Texts.of(land, "when at p in a;salt a;end;when at p in b;salt b;end;night 1;when at p in b;die r;end;");
        check.gives(x, "live(0)", x.live(0), 6);
        check.due("told(6)", x.told(6), 1);
        check.due("told(7)", x.told(7), 5);
    }

    private static void promise67Loops() {
        SorryWalk x = Texts.of(LAND, "loop 3;night 1;loop 2;night 2;end;end;night 1;");
        check.gives(x, "1 + 3 (1 + 1 + 2) + 1", x.live(0), 14);
        check.due("3 (1 + 2 2) + 1", x.told(3), 16);
        x = Texts.of(LAND, "loop 99;end;loop 2;loop 99;end;loop 99;end;end;");
        check.gives(x, "1 + 1 + 2 2", x.live(0), 6);
        lived(x, 0, 0, 0, 0, 0);
        x = Texts.of(LAND, "loop 9;night 1;when at s in b;stop;end;end;");
        check.gives(x, "stop ends all", x.live(0), 4);
        check.due("told(3)", x.told(3), 1);
        lived(x, 0, 1, 0, 0, 0);
        x = Texts.of(LAND, "loop 2;when rest p;night 1;end;when rest s;night 9;end;end;");
        check.gives(x, "1 + 2 (1 + 1 + 1)", x.live(0), 7);
    }

    private static void promise67Limit() {
        SorryWalk x = Texts.of(LAND, "loop 99;loop 99;night 1;end;end;");
        check.gives(x, "live(0)", x.live(0), 300);
        check.due("300: 1 outer, 3 inner ones, 296 NIGHTS", x.told(3), 296);
        check.gives(x, "lived(4)", x.lived(4), 1);
        x = Texts.of(LAND, "loop 99;night 1;night 1;night 1;end;night 1;night 1;");
        check.gives(x, "live(0)", x.live(0), 300);
        check.due("told(3)", x.told(3), 299);
        check.gives(x, "just 300, none left", x.lived(4), 0);
        x = Texts.of(LAND, "loop 99;night 1;night 1;night 1;end;night 1;night 1;night 1;");
        check.gives(x, "live(0)", x.live(0), 300);
        check.due("told(3)", x.told(3), 299);
        check.gives(x, "one left", x.lived(4), 1);
        x = Texts.of(LAND, "loop 99;night 1;night 1;night 1;end;loop 99;loop 9;end;end;");
        check.gives(x, "live(0)", x.live(0), 300);
        check.gives(x, "a loop was left", x.lived(4), 1);
        x = Texts.of(LAND, "loop 99;night 1;night 1;night 1;end;night 1;loop 99;end;");
        check.gives(x, "live(0)", x.live(0), 300);
        check.gives(x, "an end is no STEP", x.lived(4), 0);
        x = Texts.of(LAND, "loop 99;salt b;salt b;sweep b;end;night 1;stop;");
        check.gives(x, "live(0)", x.live(0), 300);
        lived(x, 99, 1, 0, 0, 0);
        x = Texts.of(LAND, "loop 99;salt b;salt b;sweep b;end;night 1;night 1;stop;");
        check.gives(x, "live(0)", x.live(0), 300);
        lived(x, 99, 2, 1, 0, 1);
    }

    private static void promise67Draws() {
        String land = "house a;person p in a;person q in a;person r in a dead;person s in a;person t in a;";
        for (int seed = 0; seed < 10000; seed += 97) {
            SorryWalk x = Texts.of(land, "any;any;any;any;any;");
            int dead = 4;
            int s = seed;
            for (int living = 4; living > 0; living--) {
                s = (int) (((long) s * 2969 + 11171) % 65536);
                int k = s / 8 % living;
                int p = 0;
                while ((dead >> p & 1) == 1 || k > 0) {
                    k -= (dead >> p & 1) == 0 ? 1 : 0;
                    p++;
                }
                dead |= 1 << p;
                SorryWalk y = Texts.of(land, "loop " + (5 - living) + ";any;end;");
                y.live(seed);
                check.due("told(7) by seed " + seed, y.told(7), dead);
            }
            check.gives(x, "live", x.live(seed), 5);
            lived(x, 1, 0, 0, 4, 0);
        }
    }

    private static void promise68Lived() {
        SorryWalk x = Texts.of(LAND);
        check.refused(x, "there was none", x.lived(0), 6);
        check.refused(x, "1 ahead of 6", x.lived(5), 1);
        x.live(0);
        check.refused(x, "not with STATUS 0", x.lived(0), 6);
        Texts.tales(x, "night 3;die p;die p;");
        x.mean(0, 3);
        check.refused(x, "a mean is none", x.lived(0), 6);
        x.night(1);
        x.die(1);
        x.live(0);
        lived(x, 1, 3, 5, 1, 0);
        check.refused(x, "lived(5)", x.lived(5), 1);
        check.refused(x, "lived(-1)", x.lived(-1), 1);
        x.live(-1);
        x.mean(0, 3);
        lived(x, 1, 3, 5, 1, 0);
        Texts.land(x, LAND);
        lived(x, 1, 3, 5, 1, 0);
    }

    private static void promise68Missed() {
        SorryWalk x = Texts.of(LAND, "die s;forgive s p;forgive q s;forgive q q;salt a;salt a;sweep b;sweep a;"
            + "forge p to q 5;forge s to s 5;forge p to p 5;die q;forge s to q 5;forgive q p;forge s to r 5;");
        check.gives(x, "live(0)", x.live(0), 15);
        lived(x, 11, 0, 0, 1, 0);
        check.due("owed(3, 2)", x.owed(3, 2), 8);
        check.due("told(6)", x.told(6), 0);
        x = Texts.of("house a;person p in a dead;", "any;loop 2;any;end;");
        check.gives(x, "live(0)", x.live(0), 4);
        lived(x, 3, 0, 0, 0, 0);
    }

    private static void promise68NightLimit() {
        SorryWalk x = Texts.of(LAND, "night 9;night 5;night 4;");
        for (int k = 0; k < 100; k++) {
            x.night(99);
        }
        x.night(93);
        check.due("told(3)", x.told(3), 9993);
        check.gives(x, "live(0)", x.live(0), 3);
        check.due("told(3)", x.told(3), 9998);
        lived(x, 2, 5, 0, 0, 0);
        Texts.tales(x, "night 2;night 1;night 1;");
        check.gives(x, "live(0)", x.live(0), 3);
        check.due("told(3)", x.told(3), 9999);
        lived(x, 2, 1, 0, 0, 0);
    }

    private static void promise69Mean() {
        SorryWalk x = Texts.of(LAND);
        check.denied(x, "mean(0, 1)", x.mean(0, 1), 6);
        check.denied(x, "mean(-1, 1)", x.mean(-1, 1), 1);
        Texts.tales(x, "any;night 2;");
        check.denied(x, "mean(0, 0)", x.mean(0, 0), 1);
        check.denied(x, "mean(0, 21)", x.mean(0, 21), 1);
        check.denied(x, "mean(10000, 1)", x.mean(10000, 1), 1);
        check.denied(x, "mean(9999, 2)", x.mean(9999, 2), 1);
        check.denied(x, "mean(9981, 20)", x.mean(9981, 20), 1);
        check.denied(x, "mean(max, 20)", x.mean(Integer.MAX_VALUE, 20), 1);
        check.due("top()", x.top(), 0);
        check.due("bottom()", x.bottom(), 1);
        for (int many = 1; many <= 20; many++) {
            int seed = 9999 - many + 1;
            long sum = 0;
            for (int k = 0; k < many; k++) {
                SorryWalk y = Texts.of(LAND, "any;night 2;");
                y.live(seed + k);
                sum += y.told(5);
            }
            check.yes(x, "mean", x.mean(seed, many));
            check.due("top() by bottom()", x.top() * many, sum * x.bottom());
            long g = 0;
            for (long d = 2; d <= x.bottom(); d++) {
                g += x.bottom() % d == 0 && x.top() % d == 0 ? 1 : 0;
            }
            check.due("common divisors", g, 0);
        }
        check.due("told(3)", x.told(3), 0);
        check.due("told(5)", x.told(5), 10);
        check.due("told(7)", x.told(7), 8);
        Texts.tales(x, "forgive q p;forgive p q;forgive r s;");
        check.yes(x, "mean", x.mean(0, 20));
        check.due("top()", x.top(), 0);
        check.due("bottom()", x.bottom(), 1);
        Texts.tales(x, "");
        check.yes(x, "mean", x.mean(0, 20));
        check.due("top()", x.top(), 10);
        check.due("bottom()", x.bottom(), 1);
    }

    private static void promise70Mark() {
        SorryWalk x = Texts.of(LAND);
        check.gives(x, "mark()", x.mark(), 1);
        check.gives(x, "mark()", x.mark(), 2);
        check.gives(x, "mark()", x.mark(), 3);
        check.refused(x, "mark()", x.mark(), 4);
        check.gives(x, "undo()", x.undo(), 2);
        check.gives(x, "mark()", x.mark(), 3);
        check.gives(x, "told(1)", x.told(1), 4);
    }

    private static void promise71Undo() {
        SorryWalk x = Texts.of(LAND);
        check.refused(x, "undo()", x.undo(), 6);
        x.mark();
        x.night(2);
        x.mark();
        x.night(3);
        x.mark();
        x.night(4);
        check.gives(x, "undo()", x.undo(), 2);
        check.due("told(3)", x.told(3), 5);
        x.night(9);
        check.gives(x, "undo()", x.undo(), 1);
        check.due("told(3)", x.told(3), 2);
        check.gives(x, "undo()", x.undo(), 0);
        check.due("told(3)", x.told(3), 0);
        check.refused(x, "undo()", x.undo(), 6);
        check.due("told(3)", x.told(3), 0);
    }

    private static void promise71UndoTakesBack() {
        String land = "house a;house b salt;house c;door a b;door a c;person p in a dead;person q in c keeps;person r in b deaf;"
            + "owes p q 7;owes r p 4;heir q r;";
        SorryWalk x = Texts.of(land, "night 7;");
        x.night(3);
        x.tray(0, 3, 2);
        x.weight();
        x.mark();
        x.write(0, 1, 42);
        x.night(5);
        x.die(1);
        x.forge(0, 2, 3);
        x.keep(2, true);
        x.salt(1, false);
        x.salt(2, true);
        x.wall(1, 2, true);
        x.wall(0, 1, false);
        x.move(2, 0);
        x.live(5);
        x.weight();
        long top = x.top();
        Texts.land(x, "house z;person y in z;");
        Texts.tales(x, "die y;night 1;");
        x.live(1);
        check.gives(x, "undo()", x.undo(), 0);
        int[] want = {3, 3, 2, 3, 2, 11, 2, 1, 1, 2};
        for (int what = 0; what < 10; what++) {
            check.gives(x, "told(" + what + ")", x.told(what), want[what]);
        }
        int[][] persons = {{2, 0, 1, 0, 0, 7, 4}, {2, 2, 0, 0, 1, 0, 7}, {1, 1, 0, 1, 0, 4, 0}};
        for (int p = 0; p < 3; p++) {
            for (int what = 0; what < 7; what++) {
                check.gives(x, "person(" + p + ", " + what + ")", x.person(p, what), persons[p][what]);
            }
        }
        check.gives(x, "heir(1, 0)", x.heir(1, 0), 2);
        check.gives(x, "labour(2)", x.labour(2), 2);
        check.gives(x, "door(0, 1)", x.door(0, 1), 1);
        check.gives(x, "door(1, 2)", x.door(1, 2), 0);
        check.refused(x, "way(0, 1)", x.way(0, 1), 6);
        check.gives(x, "way(2, 2)", x.way(2, 2), 2);
        check.gives(x, "TRAYS stay", x.read(0, 1), 42);
        check.due("the FRACTION stays", x.top(), top);
        check.gives(x, "lived() stays", x.lived(3), 1);
        check.gives(x, "the TALES", x.live(0), 1);
        check.due("told(3)", x.told(3), 10);
        check.gives(x, "its NAMES", Texts.tales(x, "die q;die p;"), 2);
        check.refused(x, "its NAMES", Texts.tales(x, "die y;"), 9);
    }
}
