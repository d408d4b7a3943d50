/** Promises 13 to 27: what is told of a LAND, and what is done in it. */
public final class LandTest {
    private static final Check check = new Check("LandTest");
    private static final String LAND = "house a;house b salt;house c;door a b;door c b;"
        + "person p in a dead;person q in b deaf;person r in c keeps;person s in a dead deaf keeps;"
        + "owes p q 7;owes p r 2;owes q p 5;owes s p 4;heir q r;heir q p;heir q s;heir r q;";

    public static void main(String[] args) {
        promise13Told();
        promise14Person();
        promise15Owed();
        promise16Heir();
        promise17Door();
        promise18Labour();
        promise19Within();
        promise20Night();
        promise20NightLimit();
        promise20SorryToLiving();
        promise20SorryToDead();
        promise20Turns();
        promise20Aims();
        promise20LabourLimit();
        promise21Die();
        promise21DieByThirds();
        promise21DieAboveLimit();
        promise22Forgive();
        promise23Forge();
        promise24Salt();
        promise25Keep();
        promise26Wall();
        promise27Move();
        check.end();
    }

    private static void promise13Told() {
        SorryWalk x = Texts.of(LAND);
        int[] want = {3, 4, 2, 0, 0, 18, 2, 9, 9, 12};
        for (int what = 0; what < 10; what++) {
            check.gives(x, "told(" + what + ")", x.told(what), want[what]);
        }
        check.refused(x, "told(-1)", x.told(-1), 1);
        check.refused(x, "told(10)", x.told(10), 1);
        x.night(2);
        check.gives(x, "told(3)", x.told(3), 2);
        check.gives(x, "told(4): s to p; p stands, s again", x.told(4), 2);
        x = Texts.of("house a;person p in a dead;person q in a dead;owes p q 1;");
        check.gives(x, "told(7)", x.told(7), 3);
        check.gives(x, "told(8): a DEAD one who owes nothing is no GHOST", x.told(8), 1);
    }

    private static void promise14Person() {
        SorryWalk x = Texts.of(LAND);
        int[][] want = {{0, 0, 1, 0, 0, 9, 9}, {1, 1, 0, 1, 0, 5, 7}, {2, 2, 0, 0, 1, 0, 2}, {0, 0, 1, 1, 1, 4, 0}};
        for (int p = 0; p < 4; p++) {
            for (int what = 0; what < 7; what++) {
                check.gives(x, "person(" + p + ", " + what + ")", x.person(p, what), want[p][what]);
            }
        }
        check.refused(x, "person(4, 0)", x.person(4, 0), 1);
        check.refused(x, "person(-1, 0)", x.person(-1, 0), 1);
        check.refused(x, "person(0, 7)", x.person(0, 7), 1);
        check.refused(x, "person(0, -1)", x.person(0, -1), 1);
        x = Texts.of("house a;house b;door a b;person p in a dead;person q in b;owes p q 1;");
        x.night(1);
        check.gives(x, "where it is", x.person(0, 0), 1);
        check.gives(x, "its HOME", x.person(0, 1), 0);
    }

    private static void promise15Owed() {
        SorryWalk x = Texts.of(LAND);
        check.gives(x, "owed(0, 1)", x.owed(0, 1), 7);
        check.gives(x, "owed(1, 0)", x.owed(1, 0), 5);
        check.gives(x, "owed(2, 0)", x.owed(2, 0), 0);
        check.refused(x, "owed(2, 2)", x.owed(2, 2), 1);
        check.refused(x, "owed(4, 0)", x.owed(4, 0), 1);
        check.refused(x, "owed(0, 4)", x.owed(0, 4), 1);
        check.refused(x, "owed(-1, 0)", x.owed(-1, 0), 1);
    }

    private static void promise16Heir() {
        SorryWalk x = Texts.of(LAND);
        check.gives(x, "heir(1, 0)", x.heir(1, 0), 2);
        check.gives(x, "heir(1, 1)", x.heir(1, 1), 0);
        check.gives(x, "heir(1, 2)", x.heir(1, 2), 3);
        check.refused(x, "heir(1, 3)", x.heir(1, 3), 6);
        check.gives(x, "heir(2, 0)", x.heir(2, 0), 1);
        check.refused(x, "heir(2, 1)", x.heir(2, 1), 6);
        check.refused(x, "heir(0, 0)", x.heir(0, 0), 6);
        check.refused(x, "heir(1, max)", x.heir(1, Integer.MAX_VALUE), 6);
        check.refused(x, "heir(1, -1)", x.heir(1, -1), 1);
        check.refused(x, "heir(4, 0)", x.heir(4, 0), 1);
        check.refused(x, "heir(-1, 0)", x.heir(-1, 0), 1);
    }

    private static void promise17Door() {
        SorryWalk x = Texts.of(LAND);
        check.gives(x, "door(0, 1)", x.door(0, 1), 1);
        check.gives(x, "door(1, 0)", x.door(1, 0), 1);
        check.gives(x, "door(1, 2)", x.door(1, 2), 1);
        check.gives(x, "door(0, 2)", x.door(0, 2), 0);
        check.refused(x, "door(0, 0)", x.door(0, 0), 1);
        check.refused(x, "door(0, 3)", x.door(0, 3), 1);
        check.refused(x, "door(-1, 0)", x.door(-1, 0), 1);
    }

    private static void promise18Labour() {
        SorryWalk x = Texts.of("house a;house b;person p in b dead;person q in b keeps;owes p q 1;");
        check.gives(x, "labour(1)", x.labour(1), 0);
        x.night(5);
        check.gives(x, "labour(1)", x.labour(1), 5);
        check.gives(x, "labour(0)", x.labour(0), 0);
        check.refused(x, "labour(2)", x.labour(2), 1);
        check.refused(x, "labour(-1)", x.labour(-1), 1);
    }

    private static void promise19Within() {
        SorryWalk x = Texts.of("house a;house b;person p in b dead;person q in b keeps;person r in b dead;"
            + "person s in a;owes p q 1;");
        check.gives(x, "within(1, 0)", x.within(1, 0), 7);
        check.gives(x, "within(1, 1)", x.within(1, 1), 2);
        check.gives(x, "within(1, 2)", x.within(1, 2), 1);
        check.gives(x, "within(0, 0)", x.within(0, 0), 8);
        check.gives(x, "within(0, 2)", x.within(0, 2), 0);
        check.refused(x, "within(2, 0)", x.within(2, 0), 1);
        check.refused(x, "within(-1, 0)", x.within(-1, 0), 1);
        check.refused(x, "within(0, 3)", x.within(0, 3), 1);
        check.refused(x, "within(0, -1)", x.within(0, -1), 1);
    }

    private static void promise20Night() {
        SorryWalk x = Texts.of("house a;house b;house c;door a b;door b c;person p in a dead;person q in c;owes p q 2;");
        check.refused(x, "night(0)", x.night(0), 1);
        check.refused(x, "night(-1)", x.night(-1), 1);
        check.refused(x, "night(100)", x.night(100), 1);
        check.gives(x, "night(1)", x.night(1), 1);
        check.due("where", x.person(0, 0), 1);
        check.due("said", x.told(4), 0);
        check.gives(x, "night(1)", x.night(1), 2);
        check.due("where", x.person(0, 0), 2);
        check.due("owes", x.person(0, 5), 2);
        check.gives(x, "night(1)", x.night(1), 3);
        check.due("owes", x.person(0, 5), 1);
        check.due("said", x.told(4), 1);
        check.gives(x, "night(99)", x.night(99), 102);
        check.due("owes", x.person(0, 5), 0);
        check.due("said", x.told(4), 2);
        check.due("stays where it came to rest", x.person(0, 0), 2);
    }

    private static void promise20NightLimit() {
        SorryWalk x = Texts.of("house a;person p in a dead;person q in a deaf;owes p q 99;");
        for (int k = 1; k <= 100; k++) {
            check.gives(x, "night(99)", x.night(99), 99 * k);
        }
        check.gives(x, "night(98)", x.night(98), 9998);
        check.refused(x, "night(2)", x.night(2), 4);
        check.due("told(3)", x.told(3), 9998);
        check.gives(x, "night(1)", x.night(1), 9999);
        check.refused(x, "night(1)", x.night(1), 4);
        check.refused(x, "night(100)", x.night(100), 1);
        check.due("told(3)", x.told(3), 9999);
    }

    private static void promise20SorryToLiving() {
        SorryWalk x = Texts.of("house a;person p in a dead;person q in a deaf;person r in a;person s in a deaf keeps;"
            + "owes p q 2;owes p r 1;owes p s 1;");
        int[] q = {1, 1, 0, 0, 0};
        int[] r = {1, 1, 1, 0, 0};
        for (int k = 0; k < 5; k++) {
            x.night(1);
            check.due("owed q", x.owed(0, 1), q[k]);
            check.due("owed r", x.owed(0, 2), r[k]);
            check.due("owed s", x.owed(0, 3), 1);
            check.due("said", x.told(4), k + 1);
            check.due("labour", x.labour(0), k == 4 ? 1 : 0);
        }
    }

    private static void promise20SorryToDead() {
        SorryWalk x = Texts.of("house a;person p in a dead;person q in a dead deaf keeps;person r in a dead;"
            + "owes p q 9;owes q p 3;owes r q 2;");
        x.night(1);
        check.due("owed(p, q)", x.owed(0, 1), 0);
        check.due("owed(q, p)", x.owed(1, 0), 0);
        check.due("owed(r, q)", x.owed(2, 1), 1);
        check.due("said", x.told(4), 2);
        x.night(1);
        check.due("a DEAD one hears each NIGHT", x.owed(2, 1), 0);
        check.due("said", x.told(4), 3);
        check.due("a DEAD one who KEEPS lets none labour", x.labour(0), 0);
        x = Texts.of("house a;person p in a dead;person q in a;owes p q 9;owes q p 3;");
        x.night(1);
        check.due("a living one's own debt stays", x.owed(1, 0), 3);
        check.due("owed(p, q)", x.owed(0, 1), 8);
    }

    private static void promise20Turns() {
        SorryWalk x = Texts.of("house a;house b;house c;house d;door a b;door b c;door c d;"
            + "person p in a dead;person q in c dead;owes p q 2;owes q p 1;");
        x.night(1);
        check.due("p goes first", x.person(0, 0), 1);
        check.due("q comes to where p is now", x.person(1, 0), 1);
        x.night(1);
        check.due("both are quit", x.told(5), 0);
        check.due("q is no GHOST when its turn comes", x.told(4), 1);
    }

    private static void promise20Aims() {
        SorryWalk x = Texts.of("house a;house b;house c;house d;house e;door a b;door a c;door b d;door c d;door d e;"
            + "person p in a dead;person q in e;person r in d;person s in d;owes p q 1;owes p r 1;owes p s 1;");
        check.gives(x, "the nearest, of several the first", x.aim(0), 2);
        x.night(1);
        check.due("the least HOUSE of those", x.person(0, 0), 1);
        x.salt(3, true);
        check.refused(x, "no WAY", x.aim(0), 6);
        x.night(3);
        check.due("without an AIM it stays", x.person(0, 0), 1);
        check.due("said", x.told(4), 0);
        x.salt(3, false);
        x.salt(1, true);
        x.night(1);
        check.due("out of a HOUSE with SALT", x.person(0, 0), 3);
    }

    private static void promise20LabourLimit() {
        StringBuilder text = new StringBuilder("house a;person k in a keeps;");
        for (char c = 'l'; c <= 'r'; c++) {
            text.append("person ").append(c).append(" in a dead;owes ").append(c).append(" k 1;");
        }
        SorryWalk x = Texts.of(text.toString());
        for (int k = 1; k <= 14; k++) {
            x.night(99);
            check.due("labour", x.labour(0), 693 * k);
        }
        x.night(99);
        check.due("labour", x.labour(0), 9999);
        check.due("said", x.told(4), 693 * 15);
        check.gives(x, "wells(0, 999)", x.wells(0, 999), 9999);
        check.gives(x, "harvest(0, 9999)", x.harvest(0, 9999), 0);
    }

    private static void promise21Die() {
        SorryWalk x = Texts.of(LAND);
        check.refused(x, "die(0)", x.die(0), 7);
        check.refused(x, "die(4)", x.die(4), 1);
        check.refused(x, "die(-1)", x.die(-1), 1);
        check.gives(x, "die(1)", x.die(1), 18);
        check.due("p owes r all: the other HEIRS are DEAD", x.owed(0, 2), 9);
        check.due("owed(0, 1)", x.owed(0, 1), 0);
        check.due("what it owes stays", x.owed(1, 0), 5);
        check.due("it is a GHOST now", x.told(8), 11);
        check.refused(x, "die(1) again", x.die(1), 7);
        check.gives(x, "die(2): its one HEIR is DEAD", x.die(2), 9);
        check.due("owed(0, 2)", x.owed(0, 2), 0);
    }

    private static void promise21DieByThirds() {
        String land = "house a;person p in a;person q in a;person r in a;person s in a;person t in a dead;";
        SorryWalk x = Texts.of(land + "owes t p 11;owes r p 8;heir p s;heir p r;heir p q;");
        check.gives(x, "die(0)", x.die(0), 19);
        check.due("t to s: the rest", x.owed(4, 3), 5);
        check.due("t to r", x.owed(4, 2), 3);
        check.due("t to q", x.owed(4, 1), 3);
        check.due("r to s: the rest, of two HEIRS", x.owed(2, 3), 6);
        check.due("r to q", x.owed(2, 1), 2);
        check.due("r to itself", x.person(2, 5), 8);
        x = Texts.of(land + "owes s p 8;owes q p 2;heir p s;heir p t;heir p r;");
        check.gives(x, "die(0)", x.die(0), 10);
        check.due("s to r: all, of one HEIR", x.owed(3, 2), 8);
        check.due("q to s: the first has what thirds leave", x.owed(1, 3), 2);
        check.due("q to r", x.owed(1, 2), 0);
        x = Texts.of(land + "owes s p 8;owes q p 2;owes p r 3;heir p s;");
        check.gives(x, "die(0)", x.die(0), 5);
        check.due("s is the one HEIR and owes: nobody owes it", x.person(3, 5), 0);
    }

    private static void promise21DieAboveLimit() {
        SorryWalk x = Texts.of("house a;person p in a;person q in a;person r in a dead;"
            + "owes r p 30;owes r q 80;heir p q;");
        check.gives(x, "die(0)", x.die(0), 99);
        check.due("owed(2, 1)", x.owed(2, 1), 99);
    }

    private static void promise22Forgive() {
        SorryWalk x = Texts.of(LAND);
        check.gives(x, "forgive(1, 0)", x.forgive(1, 0), 7);
        check.due("owed(0, 1)", x.owed(0, 1), 0);
        check.due("owed(1, 0)", x.owed(1, 0), 5);
        check.refused(x, "forgive(1, 0) again", x.forgive(1, 0), 7);
        check.refused(x, "a DEAD one forgives", x.forgive(0, 1), 7);
        check.refused(x, "owed nothing", x.forgive(2, 1), 7);
        check.refused(x, "forgive(1, 1)", x.forgive(1, 1), 1);
        check.refused(x, "forgive(4, 1)", x.forgive(4, 1), 1);
        check.refused(x, "forgive(1, 4)", x.forgive(1, 4), 1);
        check.refused(x, "forgive(1, -1)", x.forgive(1, -1), 1);
        check.due("told(5)", x.told(5), 11);
    }

    private static void promise23Forge() {
        SorryWalk x = Texts.of(LAND);
        check.gives(x, "forge(0, 1, 3)", x.forge(0, 1, 3), 10);
        check.gives(x, "forge(0, 1, 88)", x.forge(0, 1, 88), 98);
        check.gives(x, "forge(0, 1, 99)", x.forge(0, 1, 99), 99);
        check.gives(x, "forge(0, 1, 1)", x.forge(0, 1, 1), 99);
        check.due("owed(0, 1)", x.owed(0, 1), 99);
        check.gives(x, "forge(3, 2, 1)", x.forge(3, 2, 1), 1);
        check.refused(x, "of a living one", x.forge(1, 2, 1), 7);
        check.refused(x, "to a DEAD one", x.forge(0, 3, 1), 7);
        check.refused(x, "forge(0, 0, 1)", x.forge(0, 0, 1), 1);
        check.refused(x, "forge(0, 1, 0)", x.forge(0, 1, 0), 1);
        check.refused(x, "forge(0, 1, 100)", x.forge(0, 1, 100), 1);
        check.refused(x, "forge(4, 1, 1)", x.forge(4, 1, 1), 1);
        check.refused(x, "forge(0, -1, 1)", x.forge(0, -1, 1), 1);
        check.refused(x, "1 is ahead of 7", x.forge(1, 2, 100), 1);
    }

    private static void promise24Salt() {
        SorryWalk x = Texts.of(LAND);
        check.denied(x, "salt(1, true)", x.salt(1, true), 7);
        check.denied(x, "salt(0, false)", x.salt(0, false), 7);
        check.denied(x, "salt(3, true)", x.salt(3, true), 1);
        check.denied(x, "salt(-1, false)", x.salt(-1, false), 1);
        check.refused(x, "way(0, 2)", x.way(0, 2), 6);
        check.yes(x, "salt(1, false)", x.salt(1, false));
        check.due("told(6)", x.told(6), 0);
        check.gives(x, "way(0, 2)", x.way(0, 2), 2);
        check.yes(x, "salt(2, true)", x.salt(2, true));
        check.due("told(6)", x.told(6), 4);
        check.refused(x, "way(0, 2)", x.way(0, 2), 6);
    }

    private static void promise25Keep() {
        SorryWalk x = Texts.of(LAND);
        check.denied(x, "keep(2, true)", x.keep(2, true), 7);
        check.denied(x, "keep(0, false)", x.keep(0, false), 7);
        check.denied(x, "keep(4, true)", x.keep(4, true), 1);
        check.denied(x, "keep(-1, true)", x.keep(-1, true), 1);
        check.yes(x, "keep(2, false)", x.keep(2, false));
        check.yes(x, "keep(0, true)", x.keep(0, true));
        check.due("told(9)", x.told(9), 9);
    }

    private static void promise26Wall() {
        SorryWalk x = Texts.of(LAND);
        check.denied(x, "wall(0, 1, true)", x.wall(0, 1, true), 7);
        check.denied(x, "wall(2, 0, false)", x.wall(2, 0, false), 7);
        check.denied(x, "wall(1, 1, true)", x.wall(1, 1, true), 1);
        check.denied(x, "wall(0, 3, true)", x.wall(0, 3, true), 1);
        check.denied(x, "wall(-1, 0, true)", x.wall(-1, 0, true), 1);
        check.yes(x, "wall(2, 0, true)", x.wall(2, 0, true));
        check.due("door(0, 2)", x.door(0, 2), 1);
        check.due("told(2)", x.told(2), 3);
        check.gives(x, "way(0, 2)", x.way(0, 2), 1);
        check.yes(x, "wall(0, 1, false)", x.wall(0, 1, false));
        check.due("door(1, 0)", x.door(1, 0), 0);
        check.due("told(2)", x.told(2), 2);
        check.refused(x, "way(0, 1)", x.way(0, 1), 6);
    }

    private static void promise27Move() {
        SorryWalk x = Texts.of(LAND);
        check.denied(x, "move(0, 1)", x.move(0, 1), 7);
        check.denied(x, "move(1, 1)", x.move(1, 1), 7);
        check.denied(x, "move(4, 1)", x.move(4, 1), 1);
        check.denied(x, "move(1, 3)", x.move(1, 3), 1);
        check.denied(x, "move(1, -1)", x.move(1, -1), 1);
        check.denied(x, "move(-1, 1)", x.move(-1, 1), 1);
        check.yes(x, "move(2, 1), SALT or not", x.move(2, 1));
        check.due("person(2, 0)", x.person(2, 0), 1);
        check.due("person(2, 1)", x.person(2, 1), 1);
        check.yes(x, "move(1, 0)", x.move(1, 0));
        check.gives(x, "aim(0)", x.aim(0), 1);
    }
}
