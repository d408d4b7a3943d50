/** Promises 13 to 27 and the terms GHOST, WAY, NIGHT, SORRY, DIE, FORGIVE, FORGE, KEEP: boundary cases. */
public final class LandEdgeTest {
    private static final Cases cases = new Cases("LandEdgeTest");

    public static void main(String[] args) {
        told();
        persons();
        within();
        ghosts();
        nights();
        turns();
        waysOfNights();
        living();
        deaf();
        keeping();
        dead();
        thirds();
        dying();
        forgiving();
        forging();
        doing();
        cases.end();
    }

    /** All told of a full LAND: seven HOUSES with SALT and all DOORS, eight who are DEAD, KEEP and owe all 99. */
    private static String full() {
        StringBuilder b = new StringBuilder();
        for (char c = 'a'; c <= 'g'; c++) {
            b.append("house ").append(c).append(" salt;");
        }
        for (char c = 'h'; c <= 'o'; c++) {
            b.append("person ").append(c).append(" in g dead deaf keeps;");
        }
        return b.toString();
    }

    private static String debts(String who, int many) {
        StringBuilder b = new StringBuilder();
        for (char c : who.toCharArray()) {
            for (char d : who.toCharArray()) {
                if (c != d) {
                    b.append("owes ").append(c).append(' ').append(d).append(' ').append(many).append(';');
                }
            }
        }
        return b.toString();
    }

    private static void told() {
        cases.edge("13: sets of 7 HOUSES, of 8 PERSONS", check -> {
            SorryWalk x = Texts.of(full());
            check.gives(x, "told(0)", x.told(0), 7);
            check.gives(x, "told(1)", x.told(1), 8);
            check.gives(x, "told(6)", x.told(6), 127);
            check.gives(x, "told(7)", x.told(7), 255);
            check.gives(x, "told(8)", x.told(8), 0);
            check.gives(x, "told(9)", x.told(9), 255);
        });
        cases.edge("13: 0 and 21 couples of HOUSES with a DOOR", check -> {
            SorryWalk x = Texts.of(full());
            check.gives(x, "told(2)", x.told(2), 0);
            for (int a = 0; a < 7; a++) {
                for (int b = 0; b < a; b++) {
                    check.yes(x, "wall", x.wall(a, b, true));
                }
            }
            check.gives(x, "told(2)", x.told(2), 21);
        });
        cases.edge("13: SORROW of eight who owe each other 99", check -> {
            StringBuilder b = new StringBuilder("house a;");
            for (char c = 'h'; c <= 'o'; c++) {
                b.append("person ").append(c).append(" in a;");
            }
            SorryWalk x = Texts.of(b + debts("hijklmno", 99));
            check.gives(x, "told(5)", x.told(5), 56 * 99);
        });
        cases.edge("13: SORROW is 0 when nothing is owed", check -> {
            SorryWalk x = Texts.of("house a;person p in a;person q in a;owes p q 0;");
            check.gives(x, "told(5)", x.told(5), 0);
        });
        cases.edge("13: the NIGHT 9,999", check -> {
            SorryWalk x = new SorryWalk();
            for (int k = 0; k < 101; k++) {
                x.night(99);
            }
            check.gives(x, "told(3)", x.told(3), 9999);
        });
    }

    private static void persons() {
        cases.edge("14: what a PERSON owes and is owed at the most: 7 times 99", check -> {
            StringBuilder b = new StringBuilder("house a;");
            for (char c = 'h'; c <= 'o'; c++) {
                b.append("person ").append(c).append(" in a;");
            }
            for (char c = 'i'; c <= 'o'; c++) {
                b.append("owes h ").append(c).append(" 99;owes ").append(c).append(" h 99;");
            }
            SorryWalk x = Texts.of(b.toString());
            check.gives(x, "person(0, 5)", x.person(0, 5), 693);
            check.gives(x, "person(0, 6)", x.person(0, 6), 693);
            check.gives(x, "person(7, 5)", x.person(7, 5), 99);
            check.gives(x, "told(5)", x.told(5), 1386);
        });
        cases.edge("14: HOME stays where one walks", check -> {
            SorryWalk x = Texts.of("house a;house b;door a b;person p in a dead;person q in b;owes p q 1;");
            x.night(1);
            check.gives(x, "person(0, 0)", x.person(0, 0), 1);
            check.gives(x, "person(0, 1)", x.person(0, 1), 0);
        });
        cases.edge("14: HOME is another than the first HOUSE, also when all is taken back", check -> {
            SorryWalk x = Texts.of("house a;house b;house c;person p in c;person q in b dead;");
            check.gives(x, "person(0, 1)", x.person(0, 1), 2);
            check.gives(x, "person(1, 1)", x.person(1, 1), 1);
            x.mark();
            x.move(0, 1);
            check.gives(x, "person(0, 1)", x.person(0, 1), 1);
            x.undo();
            check.gives(x, "person(0, 1)", x.person(0, 1), 2);
        });
        cases.edge("14: 0 for what one is not", check -> {
            SorryWalk x = Texts.of("house a;person p in a;");
            for (int what = 0; what < 7; what++) {
                check.gives(x, "person(0, " + what + ")", x.person(0, what), 0);
            }
        });
        cases.edge("15: 0 and 99 SORRIES", check -> {
            SorryWalk x = Texts.of("house a;person p in a;person q in a;owes p q 99;");
            check.gives(x, "owed(0, 1)", x.owed(0, 1), 99);
            check.gives(x, "owed(1, 0)", x.owed(1, 0), 0);
        });
        cases.edge("16: no HEIR, one, and all three", check -> {
            SorryWalk x = Texts.of("house a;person p in a;person q in a;person r in a;person s in a;heir p s;heir p r;heir p q;heir q p;");
            check.gives(x, "heir(0, 2)", x.heir(0, 2), 1);
            check.refused(x, "heir(0, 3)", x.heir(0, 3), 6);
            check.gives(x, "heir(1, 0)", x.heir(1, 0), 0);
            check.refused(x, "heir(1, 1)", x.heir(1, 1), 6);
            check.refused(x, "heir(2, 0)", x.heir(2, 0), 6);
            check.refused(x, "heir(2, max)", x.heir(2, Integer.MAX_VALUE), 6);
        });
        cases.edge("16: HEIRS are told of the DEAD, too, and when they are DEAD", check -> {
            SorryWalk x = Texts.of("house a;person p in a;person q in a;heir p q;");
            x.die(0);
            x.die(1);
            check.gives(x, "heir(0, 0)", x.heir(0, 0), 1);
        });
        cases.edge("16: 1 is ahead of 6", check -> {
            SorryWalk x = Texts.of("house a;person p in a;");
            check.refused(x, "heir(1, 0)", x.heir(1, 0), 1);
            check.refused(x, "heir(0, -1)", x.heir(0, -1), 1);
        });
        cases.edge("17: a DOOR from both sides, and none", check -> {
            SorryWalk x = Texts.of("house a;house b;house c;house d;house e;house f;house g;door g a;");
            check.gives(x, "door(0, 6)", x.door(0, 6), 1);
            check.gives(x, "door(6, 0)", x.door(6, 0), 1);
            check.gives(x, "door(5, 6)", x.door(5, 6), 0);
        });
    }

    private static void within() {
        cases.edge("19: all eight in one HOUSE, none in another", check -> {
            SorryWalk x = Texts.of(full());
            check.gives(x, "within(6, 0)", x.within(6, 0), 255);
            check.gives(x, "within(6, 1)", x.within(6, 1), 0);
            check.gives(x, "within(6, 2)", x.within(6, 2), 0);
            check.gives(x, "within(0, 0)", x.within(0, 0), 0);
        });
        cases.edge("19: now, not its HOME", check -> {
            SorryWalk x = Texts.of("house a;house b;door a b;person p in a dead;person q in b;owes p q 1;");
            x.night(1);
            check.gives(x, "within(0, 0)", x.within(0, 0), 0);
            check.gives(x, "within(1, 0)", x.within(1, 0), 3);
            check.gives(x, "within(1, 1)", x.within(1, 1), 2);
            check.gives(x, "within(1, 2)", x.within(1, 2), 1);
            x.night(1);
            check.gives(x, "no GHOST any more", x.within(1, 2), 0);
        });
    }

    private static void ghosts() {
        cases.edge("GHOST: a DEAD one who owes nothing is none", check -> {
            SorryWalk x = Texts.of("house a;house b;door a b;person p in a dead;person q in b;owes p q 0;owes q p 9;");
            check.gives(x, "told(8)", x.told(8), 0);
            x.night(9);
            check.gives(x, "it stays", x.person(0, 0), 0);
        });
        cases.edge("GHOST: a living one who owes is none", check -> {
            SorryWalk x = Texts.of("house a;house b;door a b;person p in a;person q in b;owes p q 9;");
            check.gives(x, "told(8)", x.told(8), 0);
            x.night(9);
            check.gives(x, "it stays", x.person(0, 0), 0);
            check.gives(x, "it says nothing", x.told(4), 0);
            check.gives(x, "it owes", x.owed(0, 1), 9);
        });
        cases.edge("GHOST: a DEAD one who owes 1 to a DEAD one is one", check -> {
            SorryWalk x = Texts.of("house a;person p in a dead;person q in a dead;owes p q 1;");
            check.gives(x, "told(8)", x.told(8), 1);
        });
        cases.edge("GHOST: a living one who owes is one when it DIES", check -> {
            SorryWalk x = Texts.of("house a;person p in a;person q in a;owes p q 1;");
            x.die(0);
            check.gives(x, "told(8)", x.told(8), 1);
        });
        cases.edge("GHOST: no more when all is forgiven, again when forged", check -> {
            SorryWalk x = Texts.of("house a;person p in a dead;person q in a;owes p q 1;");
            x.forgive(1, 0);
            check.gives(x, "told(8)", x.told(8), 0);
            x.forge(0, 1, 1);
            check.gives(x, "told(8)", x.told(8), 1);
        });
    }

    private static void nights() {
        cases.edge("20: 1 NIGHT", check -> {
            SorryWalk x = new SorryWalk();
            check.gives(x, "night(1)", x.night(1), 1);
        });
        cases.edge("20: 99 NIGHTS are as 99 times one", check -> {
            String land = "house a;house b;house c;door a b;door b c;person p in a dead;person q in b deaf;person r in c keeps;"
                + "person s in c dead;owes p q 30;owes p r 1;owes s q 20;owes s p 3;";
            SorryWalk x = Texts.of(land);
            SorryWalk y = Texts.of(land);
            check.gives(x, "night(99)", x.night(99), 99);
            for (int k = 1; k <= 99; k++) {
                check.gives(y, "night(1)", y.night(1), k);
            }
            check.due("all is the same", Calls.allOf(x).equals(Calls.allOf(y)), true);
        });
        cases.edge("20: up to 9,999 and not above", check -> {
            SorryWalk x = new SorryWalk();
            for (int k = 0; k < 100; k++) {
                x.night(99);
            }
            check.gives(x, "told(3)", x.told(3), 9900);
            check.gives(x, "night(98)", x.night(98), 9998);
            check.refused(x, "night(2)", x.night(2), 4);
            check.gives(x, "night(1)", x.night(1), 9999);
            check.refused(x, "night(1)", x.night(1), 4);
            check.refused(x, "night(99)", x.night(99), 4);
        });
        cases.edge("20: just to 9,999 at once", check -> {
            SorryWalk x = new SorryWalk();
            for (int k = 0; k < 100; k++) {
                x.night(99);
            }
            check.gives(x, "night(99)", x.night(99), 9999);
        });
        cases.edge("20: 1 is ahead of 4", check -> {
            SorryWalk x = new SorryWalk();
            for (int k = 0; k < 101; k++) {
                x.night(99);
            }
            check.refused(x, "night(100)", x.night(100), 1);
            check.refused(x, "night(0)", x.night(0), 1);
        });
        cases.edge("20: refused with 4 not one NIGHT passes", check -> {
            SorryWalk x = Texts.of("house a;person p in a dead;person q in a keeps;owes p q 1;");
            for (int k = 0; k < 100; k++) {
                x.night(99);
            }
            x.night(90);
            check.refused(x, "night(10)", x.night(10), 4);
            check.gives(x, "told(3)", x.told(3), 9990);
            check.gives(x, "told(4)", x.told(4), 9990);
        });
    }

    private static void turns() {
        cases.edge("NIGHT: by numbers, each where the earlier ones are now", check -> {
            SorryWalk x = Texts.of("house a;house b;house c;door a b;door b c;person p in a dead;person q in c dead;owes p q 1;owes q p 1;");
            x.night(1);
            check.gives(x, "p went to b", x.person(0, 0), 1);
            check.gives(x, "q came to b", x.person(1, 0), 1);
        });
        cases.edge("NIGHT: each who is a GHOST when its turn comes: no more", check -> {
            SorryWalk x = Texts.of("house a;person p in a dead;person q in a dead;owes p q 5;owes q p 5;");
            x.night(1);
            check.gives(x, "said", x.told(4), 1);
            check.gives(x, "told(5)", x.told(5), 0);
        });
        cases.edge("NIGHT: each does one thing: come, then say", check -> {
            SorryWalk x = Texts.of("house a;house b;door a b;person p in a dead;person q in b;owes p q 2;");
            x.night(1);
            check.gives(x, "said", x.told(4), 0);
            x.night(1);
            check.gives(x, "said", x.told(4), 1);
        });
        cases.edge("NIGHT: one to whom a GHOST comes first says it in the same NIGHT", check -> {
            SorryWalk x = Texts.of("house a;house b;door a b;person p in a dead;person q in b dead;owes p q 2;owes q p 3;");
            x.night(1);
            check.gives(x, "p came to b", x.person(0, 0), 1);
            check.gives(x, "q said it there", x.told(4), 1);
            check.gives(x, "neither owes", x.told(5), 0);
        });
        cases.edge("AIM: the fewest DOORS, not the first", check -> {
            SorryWalk x = Texts.of("house a;house b;house c;door a b;door b c;person p in a dead;person q in c;person r in b;owes p q 9;owes p r 1;");
            check.gives(x, "aim(0)", x.aim(0), 2);
        });
        cases.edge("AIM: of several the first", check -> {
            SorryWalk x = Texts.of("house a;house b;house c;door a b;door a c;person p in a dead;person q in c;person r in b;owes p q 1;owes p r 9;");
            check.gives(x, "aim(0)", x.aim(0), 1);
            x.night(1);
            check.gives(x, "person(0, 0)", x.person(0, 0), 2);
        });
        cases.edge("AIM: one in the same HOUSE is nearer than all", check -> {
            SorryWalk x = Texts.of("house a;house b;door a b;person p in a dead;person q in b;person r in a;owes p q 9;owes p r 1;");
            x.night(1);
            check.gives(x, "said", x.told(4), 1);
            check.gives(x, "owed(0, 2)", x.owed(0, 2), 0);
            x.night(1);
            check.gives(x, "then the other", x.person(0, 0), 1);
        });
        cases.edge("AIM: where that one is now, not its HOME", check -> {
            SorryWalk x = Texts.of("house a;house b;house c;door a b;door b c;person p in c dead;person q in a dead;person r in b;owes q r 3;owes p q 1;");
            x.night(1);
            check.gives(x, "q is in b, and p comes there", x.person(0, 0), 1);
        });
    }

    private static void waysOfNights() {
        cases.edge("WAY: into no HOUSE with SALT", check -> {
            SorryWalk x = Texts.of("house a;house b salt;door a b;person p in a dead;person q in b;owes p q 1;");
            x.night(9);
            check.gives(x, "it stays", x.person(0, 0), 0);
            check.gives(x, "said", x.told(4), 0);
        });
        cases.edge("WAY: it may be in one, and says it there", check -> {
            SorryWalk x = Texts.of("house a salt;person p in a dead;person q in a;owes p q 1;");
            x.night(1);
            check.gives(x, "told(5)", x.told(5), 0);
        });
        cases.edge("WAY: out of one with SALT, and not back", check -> {
            SorryWalk x = Texts.of("house a salt;house b;door a b;person p in a dead;person q in b;person r in a;owes p q 1;owes p r 1;");
            x.move(2, 1);
            x.night(1);
            check.gives(x, "out", x.person(0, 0), 1);
            x.night(1);
            x.move(2, 0);
            x.night(9);
            check.gives(x, "not back", x.person(0, 0), 1);
            check.gives(x, "owed(0, 2)", x.owed(0, 2), 1);
        });
        cases.edge("WAY: round about, if SALT is on the short one", check -> {
            SorryWalk x = Texts.of("house a;house b salt;house c;house d;house e;door a b;door b e;door a c;door c d;door d e;"
                + "person p in a dead;person q in e;owes p q 1;");
            int[] want = {2, 3, 4, 4};
            for (int k = 0; k < want.length; k++) {
                x.night(1);
                check.gives(x, "person(0, 0)", x.person(0, 0), want[k]);
            }
            check.gives(x, "told(5)", x.told(5), 0);
        });
        cases.edge("WAY: of 6 DOORS through all 7 HOUSES", check -> {
            SorryWalk x = Texts.of("house a;house b;house c;house d;house e;house f;house g;door a b;door b c;door c d;door d e;door e f;door f g;"
                + "person p in a dead;person q in g;owes p q 1;");
            for (int k = 1; k <= 6; k++) {
                x.night(1);
                check.gives(x, "person(0, 0)", x.person(0, 0), k);
            }
            x.night(1);
            check.gives(x, "told(5)", x.told(5), 0);
        });
        cases.edge("NIGHT: into the HOUSE with the least number of those", check -> {
            SorryWalk x = Texts.of("house d;house c;house b;house a;door a b;door a c;door b d;door c d;person p in a dead;person q in d;owes p q 1;");
            x.night(1);
            check.gives(x, "c is 1, b is 2", x.person(0, 0), 1);
        });
        cases.edge("NIGHT: the least number of those of a shortest WAY, not of all", check -> {
            SorryWalk x = Texts.of("house a;house b;house c;house d;door b a;door b c;door c d;door a c;person p in b dead;person q in d;owes p q 1;");
            x.night(1);
            check.gives(x, "person(0, 0)", x.person(0, 0), 2);
        });
        cases.edge("NIGHT: without an AIM it stays, a GHOST all the same", check -> {
            SorryWalk x = Texts.of("house a;house b;person p in a dead;person q in b;owes p q 1;");
            x.night(99);
            check.gives(x, "person(0, 0)", x.person(0, 0), 0);
            check.gives(x, "told(8)", x.told(8), 1);
            check.gives(x, "said", x.told(4), 0);
        });
    }

    private static void living() {
        cases.edge("SORRY: it owes 1 less, down to 0, and no further", check -> {
            SorryWalk x = Texts.of("house a;person p in a dead;person q in a;owes p q 2;");
            x.night(1);
            check.gives(x, "owed(0, 1)", x.owed(0, 1), 1);
            x.night(9);
            check.gives(x, "owed(0, 1)", x.owed(0, 1), 0);
            check.gives(x, "said", x.told(4), 2);
        });
        cases.edge("SORRY: 99 of them", check -> {
            SorryWalk x = Texts.of("house a;person p in a dead;person q in a;owes p q 99;");
            x.night(98);
            check.gives(x, "owed(0, 1)", x.owed(0, 1), 1);
            x.night(1);
            check.gives(x, "owed(0, 1)", x.owed(0, 1), 0);
            check.gives(x, "said", x.told(4), 99);
        });
        cases.edge("SORRY: what a living one owes back stays", check -> {
            SorryWalk x = Texts.of("house a;person p in a dead;person q in a;owes p q 2;owes q p 2;");
            x.night(9);
            check.gives(x, "owed(1, 0)", x.owed(1, 0), 2);
            check.gives(x, "owed(0, 1)", x.owed(0, 1), 0);
        });
    }

    private static void deaf() {
        String land = "house a;person p in a dead;person q in a deaf;owes p q 2;";
        cases.edge("SORRY: a DEAF one hears it in NIGHT 1", check -> {
            SorryWalk x = Texts.of(land);
            x.night(1);
            check.gives(x, "owed(0, 1)", x.owed(0, 1), 1);
        });
        cases.edge("SORRY: a DEAF one does not in NIGHT 2, but it counts as said", check -> {
            SorryWalk x = Texts.of(land);
            x.night(2);
            check.gives(x, "owed(0, 1)", x.owed(0, 1), 1);
            check.gives(x, "said", x.told(4), 2);
            x.night(1);
            check.gives(x, "in NIGHT 3 again", x.owed(0, 1), 0);
        });
        cases.edge("SORRY: a DEAF one hears it in NIGHT 9,999", check -> {
            SorryWalk x = Texts.of("house a;person p in a dead;person q in a deaf;");
            for (int k = 0; k < 100; k++) {
                x.night(99);
            }
            x.night(97);
            x.forge(0, 1, 9);
            x.night(1);
            check.gives(x, "not in NIGHT 9,998", x.owed(0, 1), 9);
            x.night(1);
            check.gives(x, "owed(0, 1)", x.owed(0, 1), 8);
        });
        cases.edge("SORRY: a DEAF one who KEEPS lets labour in even NIGHTS, too", check -> {
            SorryWalk x = Texts.of("house a;person p in a dead;person q in a deaf keeps;owes p q 2;");
            x.night(2);
            check.gives(x, "labour(0)", x.labour(0), 2);
            check.gives(x, "owed(0, 1)", x.owed(0, 1), 2);
        });
    }

    private static void keeping() {
        cases.edge("SORRY: kept: 1 LABOUR more in that HOUSE, and it counts as said", check -> {
            SorryWalk x = Texts.of("house a;house b;door a b;person p in a dead;person q in b keeps;owes p q 1;");
            x.night(1);
            check.gives(x, "labour(1)", x.labour(1), 0);
            x.night(1);
            check.gives(x, "labour(1)", x.labour(1), 1);
            check.gives(x, "labour(0)", x.labour(0), 0);
            check.gives(x, "said", x.told(4), 1);
            check.gives(x, "owed(0, 1)", x.owed(0, 1), 1);
        });
        cases.edge("SORRY: LABOUR to 9,999, SORRIES on", check -> {
            StringBuilder b = new StringBuilder("house a;person k in a keeps;");
            for (char c = 'l'; c <= 'r'; c++) {
                b.append("person ").append(c).append(" in a dead;owes ").append(c).append(" k 1;");
            }
            SorryWalk x = Texts.of(b.toString());
            for (int k = 0; k < 14; k++) {
                x.night(99);
            }
            x.night(42);
            check.gives(x, "labour(0)", x.labour(0), 9996);
            x.night(1);
            check.gives(x, "3 of 7 are still done", x.labour(0), 9999);
            x.night(1);
            check.gives(x, "labour(0)", x.labour(0), 9999);
            check.gives(x, "said", x.told(4), 7 * 1430);
        });
        cases.edge("KEEP: from now on, and no more from then on", check -> {
            SorryWalk x = Texts.of("house a;person p in a dead;person q in a;owes p q 9;");
            x.night(1);
            x.keep(1, true);
            x.night(2);
            check.gives(x, "owed(0, 1)", x.owed(0, 1), 8);
            check.gives(x, "labour(0)", x.labour(0), 2);
            x.keep(1, false);
            x.night(1);
            check.gives(x, "owed(0, 1)", x.owed(0, 1), 7);
            check.gives(x, "labour(0)", x.labour(0), 2);
        });
        cases.edge("SORRY: KEEPING ends with death", check -> {
            SorryWalk x = Texts.of("house a;person p in a dead;person q in a dead keeps;owes p q 1;");
            x.night(1);
            check.gives(x, "owed(0, 1)", x.owed(0, 1), 0);
            check.gives(x, "labour(0)", x.labour(0), 0);
            check.gives(x, "it KEEPS, though", x.person(1, 4), 1);
        });
    }

    private static void dead() {
        cases.edge("SORRY: to a DEAD one that owes it, too: neither owes any more, however many", check -> {
            SorryWalk x = Texts.of("house a;person p in a dead;person q in a dead;owes p q 99;owes q p 1;");
            x.night(1);
            check.gives(x, "told(5)", x.told(5), 0);
            check.gives(x, "said", x.told(4), 1);
        });
        cases.edge("SORRY: to a DEAD one that owes it nothing: 1 less", check -> {
            SorryWalk x = Texts.of("house a;person p in a dead;person q in a dead;person r in a;owes p q 99;owes q r 1;");
            x.night(1);
            check.gives(x, "owed(0, 1)", x.owed(0, 1), 98);
        });
        cases.edge("SORRY: to a DEAD one: what they owe others stays", check -> {
            SorryWalk x = Texts.of("house a;person p in a dead;person q in a dead;person r in a keeps;owes p q 9;owes q p 1;owes p r 3;owes q r 4;");
            x.night(1);
            check.gives(x, "owed(0, 2)", x.owed(0, 2), 3);
            check.gives(x, "owed(1, 2)", x.owed(1, 2), 4);
            check.gives(x, "q says his to r in the same NIGHT", x.labour(0), 1);
            check.gives(x, "said", x.told(4), 2);
        });
        cases.edge("SORRY: to a DEAD one who is DEAF, in an even NIGHT", check -> {
            SorryWalk x = Texts.of("house a;person p in a dead;person q in a dead deaf;owes p q 9;");
            x.night(2);
            check.gives(x, "owed(0, 1)", x.owed(0, 1), 7);
        });
    }

    private static String ten(String debtor, int many, String heirs) {
        StringBuilder b = new StringBuilder("house a;person p in a;person q in a;person r in a;person s in a;person t in a dead;");
        b.append("owes ").append(debtor).append(" p ").append(many).append(';');
        for (char c : heirs.toCharArray()) {
            b.append("heir p ").append(c).append(';');
        }
        return b.toString();
    }

    private static void shared(String sentence, String debtor, int many, String heirs, int q, int r, int s) {
        cases.edge("DIE: " + sentence, check -> {
            SorryWalk x = Texts.of(ten(debtor, many, heirs));
            int who = debtor.charAt(0) - 'p';
            check.gives(x, "die(0)", x.die(0), q + r + s);
            int[] want = {0, q, r, s};
            for (int k = 0; k < 4; k++) {
                if (k != who) {
                    check.gives(x, "owed(" + who + ", " + k + ")", x.owed(who, k), want[k]);
                }
            }
        });
    }

    private static void thirds() {
        shared("0 of three HEIRS", "t", 0, "qrs", 0, 0, 0);
        shared("1 of three HEIRS: the first alone", "t", 1, "qrs", 1, 0, 0);
        shared("2 of three HEIRS: the first alone", "t", 2, "qrs", 2, 0, 0);
        shared("3 of three HEIRS: one each", "t", 3, "qrs", 1, 1, 1);
        shared("4 of three HEIRS: the first what is left over", "t", 4, "rqs", 1, 2, 1);
        shared("5 of three HEIRS", "t", 5, "sqr", 1, 1, 3);
        shared("99 of three HEIRS", "t", 99, "qrs", 33, 33, 33);
        shared("98 of three HEIRS", "t", 98, "qrs", 34, 32, 32);
        shared("1 of two HEIRS", "t", 1, "sr", 0, 0, 1);
        shared("3 of two HEIRS: a third, and all the rest", "t", 3, "qr", 2, 1, 0);
        shared("98 of two HEIRS", "t", 98, "rq", 32, 66, 0);
        shared("1 of one HEIR", "t", 1, "s", 0, 0, 1);
        shared("99 of one HEIR: all", "t", 99, "s", 0, 0, 99);
        shared("without HEIRS nobody owes it", "t", 99, "", 0, 0, 0);
        shared("a DEAD HEIR gets nothing", "s", 9, "t", 0, 0, 0);
        shared("a DEAD HEIR is none: the others as two", "s", 9, "tqr", 6, 3, 0);
        shared("who owes is no HEIR himself", "q", 9, "q", 0, 0, 0);
        shared("who owes is no HEIR himself: the others as two", "q", 9, "qrs", 0, 6, 3);
        shared("who owes, and a DEAD one, are none: the other has all", "q", 8, "qts", 0, 0, 8);
    }

    private static void dying() {
        cases.edge("DIE: what it would be above 99 is lost, of the first", check -> {
            SorryWalk x = Texts.of(ten("t", 99, "qrs") + "owes t q 67;owes t r 66;owes t s 65;");
            check.gives(x, "die(0)", x.die(0), 99 + 99 + 98);
            check.gives(x, "owed(4, 1)", x.owed(4, 1), 99);
            check.gives(x, "just 99", x.owed(4, 2), 99);
            check.gives(x, "owed(4, 3)", x.owed(4, 3), 98);
        });
        cases.edge("DIE: at 99 already all is lost", check -> {
            SorryWalk x = Texts.of(ten("t", 99, "q") + "owes t q 99;");
            check.gives(x, "die(0)", x.die(0), 99);
        });
        cases.edge("DIE: of what each other one owed it, each by itself", check -> {
            SorryWalk x = Texts.of(ten("t", 4, "qr") + "owes q p 4;owes r p 4;owes s p 4;");
            check.gives(x, "die(0)", x.die(0), 16);
            check.gives(x, "t to q", x.owed(4, 1), 3);
            check.gives(x, "t to r", x.owed(4, 2), 1);
            check.gives(x, "q to r", x.owed(1, 2), 4);
            check.gives(x, "r to q", x.owed(2, 1), 4);
            check.gives(x, "s to q", x.owed(3, 1), 3);
            check.gives(x, "s to r", x.owed(3, 2), 1);
            check.gives(x, "nobody owes p", x.person(0, 6), 0);
        });
        cases.edge("DIE: what it owes stays, and it is DEAD where it is", check -> {
            SorryWalk x = Texts.of("house a;house b;person p in a;person q in b;owes p q 9;");
            check.gives(x, "die(0)", x.die(0), 9);
            check.gives(x, "person(0, 2)", x.person(0, 2), 1);
            check.gives(x, "person(0, 0)", x.person(0, 0), 0);
            check.gives(x, "owed(0, 1)", x.owed(0, 1), 9);
        });
        cases.edge("DIE: the HEIR is the first PERSON", check -> {
            SorryWalk x = Texts.of("house a;person q in a;person p in a;person t in a dead;owes t p 7;heir p q;");
            check.gives(x, "die(1)", x.die(1), 7);
            check.gives(x, "owed(2, 0)", x.owed(2, 0), 7);
        });
        cases.edge("DIE: the last living one, to a SORROW of 0", check -> {
            SorryWalk x = Texts.of("house a;person p in a;person q in a dead;owes q p 5;");
            check.gives(x, "die(0)", x.die(0), 0);
            check.gives(x, "told(7)", x.told(7), 3);
            check.refused(x, "die(0)", x.die(0), 7);
        });
        cases.edge("DIE: it stays HEIR of others, but gets nothing", check -> {
            SorryWalk x = Texts.of("house a;person p in a;person q in a;person r in a dead;owes r p 5;heir p q;");
            x.die(1);
            check.gives(x, "die(0)", x.die(0), 0);
            check.gives(x, "heir(0, 0)", x.heir(0, 0), 1);
        });
    }

    private static void forgiving() {
        String land = "house a;person p in a dead;person q in a;person r in a;owes p q 99;owes r q 1;owes q p 5;owes q r 6;";
        cases.edge("22: how many it was owed: 99, then nothing", check -> {
            SorryWalk x = Texts.of(land);
            check.gives(x, "forgive(1, 0)", x.forgive(1, 0), 99);
            check.refused(x, "forgive(1, 0)", x.forgive(1, 0), 7);
            check.gives(x, "owed(0, 1)", x.owed(0, 1), 0);
        });
        cases.edge("22: 1, of a living one", check -> {
            SorryWalk x = Texts.of(land);
            check.gives(x, "forgive(1, 2)", x.forgive(1, 2), 1);
            check.gives(x, "what the other way is owed stays", x.owed(1, 2), 6);
            check.gives(x, "and what others owe", x.owed(0, 1), 99);
        });
        cases.edge("22: a DEAD one is owed, but can't", check -> {
            SorryWalk x = Texts.of(land);
            check.refused(x, "forgive(0, 1)", x.forgive(0, 1), 7);
            check.gives(x, "owed(1, 0)", x.owed(1, 0), 5);
        });
        cases.edge("22: one who was owed nothing", check -> {
            SorryWalk x = Texts.of(land);
            check.refused(x, "forgive(2, 0)", x.forgive(2, 0), 7);
        });
        cases.edge("22: forgiving is no SORRY said", check -> {
            SorryWalk x = Texts.of(land);
            x.forgive(1, 0);
            check.gives(x, "told(4)", x.told(4), 0);
        });
    }

    private static void forging() {
        String land = "house a;person p in a dead;person q in a;person r in a dead;owes p q 50;";
        cases.edge("23: 49 more are 99", check -> {
            SorryWalk x = Texts.of(land);
            check.gives(x, "forge(0, 1, 49)", x.forge(0, 1, 49), 99);
        });
        cases.edge("23: 50 more are 99 at most", check -> {
            SorryWalk x = Texts.of(land);
            check.gives(x, "forge(0, 1, 50)", x.forge(0, 1, 50), 99);
            check.gives(x, "told(5)", x.told(5), 99);
        });
        cases.edge("23: 99 at once, and 99 again", check -> {
            SorryWalk x = Texts.of(land);
            check.gives(x, "forge(2, 1, 99)", x.forge(2, 1, 99), 99);
            check.gives(x, "forge(2, 1, 99)", x.forge(2, 1, 99), 99);
        });
        cases.edge("23: 1 at the least", check -> {
            SorryWalk x = Texts.of(land);
            check.gives(x, "forge(2, 1, 1)", x.forge(2, 1, 1), 1);
            check.gives(x, "told(8)", x.told(8), 5);
        });
        cases.edge("23: of a living one, to a DEAD one, of both", check -> {
            SorryWalk x = Texts.of(land);
            check.refused(x, "to a DEAD one", x.forge(0, 2, 1), 7);
            check.refused(x, "of a living one, to a DEAD one", x.forge(1, 0, 1), 7);
            check.refused(x, "1 is ahead of 7", x.forge(1, 0, 0), 1);
            check.refused(x, "1 is ahead of 7", x.forge(1, 1, 1), 1);
        });
        cases.edge("23: of a living one to a living one", check -> {
            SorryWalk x = Texts.of("house a;person p in a;person q in a;");
            check.refused(x, "forge(0, 1, 1)", x.forge(0, 1, 1), 7);
        });
    }

    private static void doing() {
        String land = "house a;house b salt;door a b;person p in a;person q in b dead keeps;";
        cases.edge("24: SALT comes, goes, comes", check -> {
            SorryWalk x = Texts.of(land);
            check.yes(x, "salt(0, true)", x.salt(0, true));
            check.denied(x, "salt(0, true)", x.salt(0, true), 7);
            check.yes(x, "salt(0, false)", x.salt(0, false));
            check.denied(x, "salt(0, false)", x.salt(0, false), 7);
            check.yes(x, "salt(1, false)", x.salt(1, false));
            check.gives(x, "told(6)", x.told(6), 0);
        });
        cases.edge("25: KEEP of a DEAD one, too", check -> {
            SorryWalk x = Texts.of(land);
            check.yes(x, "keep(1, false)", x.keep(1, false));
            check.denied(x, "keep(1, false)", x.keep(1, false), 7);
            check.yes(x, "keep(1, true)", x.keep(1, true));
            check.denied(x, "keep(1, true)", x.keep(1, true), 7);
            check.gives(x, "told(9)", x.told(9), 2);
        });
        cases.edge("26: a DOOR from either side", check -> {
            SorryWalk x = Texts.of(land);
            check.denied(x, "wall(1, 0, true)", x.wall(1, 0, true), 7);
            check.yes(x, "wall(1, 0, false)", x.wall(1, 0, false));
            check.denied(x, "wall(0, 1, false)", x.wall(0, 1, false), 7);
            check.gives(x, "told(2)", x.told(2), 0);
            check.yes(x, "wall(0, 1, true)", x.wall(0, 1, true));
            check.gives(x, "door(1, 0)", x.door(1, 0), 1);
        });
        cases.edge("26: WAYS go through a new DOOR, and not through one walled up", check -> {
            SorryWalk x = Texts.of("house a;house b;house c;door a b;person p in c dead;person q in a;owes p q 1;");
            check.refused(x, "way(0, 0)", x.way(0, 0), 6);
            x.wall(1, 2, true);
            check.gives(x, "way(0, 0)", x.way(0, 0), 2);
            x.night(1);
            check.gives(x, "person(0, 0)", x.person(0, 0), 1);
            x.wall(0, 1, false);
            check.refused(x, "way(0, 0)", x.way(0, 0), 6);
            x.night(1);
            check.gives(x, "it stays", x.person(0, 0), 1);
        });
        cases.edge("24: WAYS mind new SALT, and old no more", check -> {
            SorryWalk x = Texts.of("house a;house b;house c;door a b;door b c;person p in c dead;person q in a;owes p q 1;");
            x.salt(0, true);
            check.refused(x, "way(0, 0)", x.way(0, 0), 6);
            x.night(1);
            check.gives(x, "it stays", x.person(0, 0), 2);
            x.salt(0, false);
            x.night(2);
            check.gives(x, "it is there", x.person(0, 0), 0);
        });
        cases.edge("26: 1 for one and itself, ahead of 7", check -> {
            SorryWalk x = Texts.of(land);
            check.denied(x, "wall(0, 0, false)", x.wall(0, 0, false), 1);
            check.denied(x, "wall(1, 1, true)", x.wall(1, 1, true), 1);
        });
        cases.edge("27: a living one moves, into SALT and without a DOOR, too", check -> {
            SorryWalk x = Texts.of(land + "house c salt;");
            check.yes(x, "move(0, 2)", x.move(0, 2));
            check.gives(x, "person(0, 0)", x.person(0, 0), 2);
            check.gives(x, "person(0, 1)", x.person(0, 1), 2);
            check.denied(x, "it is there", x.move(0, 2), 7);
            check.yes(x, "move(0, 0)", x.move(0, 0));
        });
        cases.edge("27: a DEAD one does not, nor where it is", check -> {
            SorryWalk x = Texts.of(land);
            check.denied(x, "move(1, 0)", x.move(1, 0), 7);
            check.denied(x, "move(1, 1)", x.move(1, 1), 7);
            check.gives(x, "person(1, 0)", x.person(1, 0), 1);
        });
    }
}
