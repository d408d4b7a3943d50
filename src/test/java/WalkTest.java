/** Promises 28 to 46: who walks where. */
public final class WalkTest {
    private static final Check check = new Check("WalkTest");
    /** A square a b d c with a tail d e, and f apart. */
    private static final String ROADS = "house a;house b;house c;house d;house e;house f;"
        + "door a b;door a c;door b d;door c d;door d e;";
    private static final String LAND = ROADS + "person p in a dead;person q in e;person r in d deaf;person s in f;"
        + "person t in e dead;owes p q 2;owes p s 1;owes t r 2;owes q r 4;";

    public static void main(String[] args) {
        promise28Way();
        promise29Aim();
        promise30Step();
        promise31Walks();
        promise32Later();
        promise33Rest();
        promise34Quiet();
        promise35Harvest();
        promise36Visitors();
        promise37Stays();
        promise38Must();
        promise39Reach();
        promise40Tours();
        promise41Meets();
        promise42Crowd();
        promise43Busiest();
        promise44Exposed();
        promise45Wells();
        promise46Ways();
        lookingAheadChangesNothing();
        nightsBeyondTheLimit();
        check.end();
    }

    private static void promise28Way() {
        SorryWalk x = Texts.of(LAND);
        int[] want = {0, 1, 1, 2, 3};
        for (int h = 0; h < 5; h++) {
            check.gives(x, "way(0, " + h + ")", x.way(0, h), want[h]);
        }
        check.refused(x, "way(0, 5)", x.way(0, 5), 6);
        check.gives(x, "a living one's", x.way(1, 0), 3);
        check.refused(x, "way(0, 6)", x.way(0, 6), 1);
        check.refused(x, "way(0, -1)", x.way(0, -1), 1);
        check.refused(x, "way(5, 0)", x.way(5, 0), 1);
        check.refused(x, "way(-1, 0)", x.way(-1, 0), 1);
        x.salt(0, true);
        check.gives(x, "out of SALT", x.way(0, 3), 2);
        check.gives(x, "in it, too", x.way(0, 0), 0);
        check.refused(x, "into SALT", x.way(1, 0), 6);
        x.salt(1, true);
        check.gives(x, "round it", x.way(0, 3), 2);
        x.salt(2, true);
        check.refused(x, "way(0, 3)", x.way(0, 3), 6);
    }

    private static void promise29Aim() {
        SorryWalk x = Texts.of(LAND);
        check.gives(x, "aim(0)", x.aim(0), 1);
        check.gives(x, "aim(4)", x.aim(4), 2);
        check.refused(x, "aim(1): it lives", x.aim(1), 6);
        check.refused(x, "aim(5)", x.aim(5), 1);
        check.refused(x, "aim(-1)", x.aim(-1), 1);
        x.move(3, 4);
        check.gives(x, "of several the first", x.aim(0), 1);
        x.move(3, 3);
        check.gives(x, "the nearest", x.aim(0), 3);
        x.salt(3, true);
        check.refused(x, "has none", x.aim(0), 6);
        x = Texts.of("house a;person p in a dead;");
        check.refused(x, "a DEAD one who owes nothing", x.aim(0), 6);
    }

    private static void promise30Step() {
        SorryWalk x = Texts.of(LAND);
        check.gives(x, "step(0)", x.step(0), 1);
        check.gives(x, "step(4)", x.step(4), 3);
        check.gives(x, "step(2): it owes nothing", x.step(2), 2 + 1);
        check.gives(x, "step(3)", x.step(3), 5);
        check.gives(x, "step(1): as if it were a GHOST", x.step(1), 3);
        check.refused(x, "step(5)", x.step(5), 1);
        check.refused(x, "step(-1)", x.step(-1), 1);
        x.salt(1, true);
        check.gives(x, "step(0)", x.step(0), 2);
        x.salt(2, true);
        check.gives(x, "without an AIM it stays", x.step(0), 0);
        x.move(1, 0);
        check.gives(x, "its AIM is there", x.step(0), 0);
        x = Texts.of("house a;house b;house c;house d;door a b;door b c;door c d;"
            + "person p in a dead;person q in c dead;owes p q 2;owes q p 1;");
        check.gives(x, "it alone walks: p has not gone ahead", x.step(1), 1);
        check.gives(x, "step(0)", x.step(0), 1);
    }

    private static void promise31Walks() {
        SorryWalk x = Texts.of(LAND);
        int[] p = {0, 1, 3, 4, 4, 4, 4};
        int[] t = {4, 3, 3, 3, 3, 3, 3};
        for (int k = 0; k < 7; k++) {
            check.gives(x, "walks(0, " + k + ")", x.walks(0, k), p[k]);
            check.gives(x, "walks(4, " + k + ")", x.walks(4, k), t[k]);
            check.gives(x, "walks(1, " + k + ")", x.walks(1, k), 4);
        }
        check.gives(x, "walks(0, 999)", x.walks(0, 999), 4);
        check.refused(x, "walks(0, 1000)", x.walks(0, 1000), 1);
        check.refused(x, "walks(0, -1)", x.walks(0, -1), 1);
        check.refused(x, "walks(5, 0)", x.walks(5, 0), 1);
        check.refused(x, "walks(-1, 0)", x.walks(-1, 0), 1);
    }

    private static void promise32Later() {
        SorryWalk x = Texts.of(LAND);
        int[] p = {3, 3, 3, 3, 2, 1, 1};
        int[] t = {2, 2, 2, 1, 1, 0, 0};
        for (int k = 0; k < 7; k++) {
            check.gives(x, "later(0, " + k + ")", x.later(0, k), p[k]);
            check.gives(x, "later(4, " + k + ")", x.later(4, k), t[k]);
            check.gives(x, "later(1, " + k + ")", x.later(1, k), 4);
        }
        check.refused(x, "later(0, 1000)", x.later(0, 1000), 1);
        check.refused(x, "later(0, -1)", x.later(0, -1), 1);
        check.refused(x, "later(5, 0)", x.later(5, 0), 1);
    }

    private static void promise33Rest() {
        SorryWalk x = Texts.of(LAND);
        check.gives(x, "rest(4)", x.rest(4), 5);
        check.refused(x, "rest(0)", x.rest(0), 6);
        check.gives(x, "rest(1)", x.rest(1), 0);
        check.refused(x, "rest(5)", x.rest(5), 1);
        check.refused(x, "rest(-1)", x.rest(-1), 1);
        StringBuilder text = new StringBuilder("house a;person p in a dead;");
        for (char c = 'q'; c <= 'w'; c++) {
            text.append("person ").append(c).append(" in a deaf;owes p ").append(c).append(" 99;");
        }
        x = Texts.of(text.toString());
        check.refused(x, "693 in uneven NIGHTS are too many", x.rest(0), 6);
        x.forgive(1, 0);
        x.forgive(2, 0);
        check.gives(x, "495 in uneven NIGHTS", x.rest(0), 989);
        x.forge(0, 1, 5);
        check.gives(x, "500 in uneven NIGHTS", x.rest(0), 999);
        x.night(1);
        check.gives(x, "499 more", x.rest(0), 998);
        x.forge(0, 1, 1);
        check.refused(x, "500 more from an even NIGHT on", x.rest(0), 6);
    }

    private static void promise34Quiet() {
        SorryWalk x = Texts.of(LAND);
        check.gives(x, "quiet(0)", x.quiet(0), 1);
        check.gives(x, "quiet(1)", x.quiet(1), 0);
        check.gives(x, "quiet(4)", x.quiet(4), 1);
        x.night(3);
        check.refused(x, "quiet(4)", x.quiet(4), 6);
        check.gives(x, "quiet(3)", x.quiet(3), 2);
        check.refused(x, "quiet(6)", x.quiet(6), 1);
        check.refused(x, "quiet(-1)", x.quiet(-1), 1);
        x = Texts.of("house a;person p in a dead;person q in a;owes p q 99;");
        check.gives(x, "quiet(0)", x.quiet(0), 99);
        x = Texts.of("house a;person p in a dead;person q in a;person r in a;owes p q 99;owes p r 1;");
        check.refused(x, "quiet(0)", x.quiet(0), 6);
    }

    private static void promise35Harvest() {
        SorryWalk x = Texts.of("house a;house b;door a b;person p in a dead;person q in b keeps;owes p q 1;");
        check.gives(x, "harvest(1, 0)", x.harvest(1, 0), 0);
        check.gives(x, "harvest(1, 1)", x.harvest(1, 1), 2);
        check.gives(x, "harvest(1, 998)", x.harvest(1, 998), 999);
        check.refused(x, "harvest(1, 999)", x.harvest(1, 999), 6);
        check.refused(x, "harvest(1, 9999)", x.harvest(1, 9999), 6);
        check.refused(x, "harvest(0, 1)", x.harvest(0, 1), 6);
        check.refused(x, "harvest(1, 10000)", x.harvest(1, 10000), 1);
        check.refused(x, "harvest(1, -1)", x.harvest(1, -1), 1);
        check.refused(x, "harvest(2, 1)", x.harvest(2, 1), 1);
        x.night(10);
        check.gives(x, "harvest(1, 9)", x.harvest(1, 9), 0);
        check.gives(x, "harvest(1, 10)", x.harvest(1, 10), 1);
    }

    private static void promise36Visitors() {
        SorryWalk x = Texts.of(LAND);
        check.gives(x, "visitors(3, 0)", x.visitors(3, 0), 0);
        check.gives(x, "visitors(3, 1)", x.visitors(3, 1), 16);
        check.gives(x, "visitors(3, 2)", x.visitors(3, 2), 17);
        check.gives(x, "visitors(4, 0)", x.visitors(4, 0), 16);
        check.gives(x, "visitors(4, 99)", x.visitors(4, 99), 17);
        check.gives(x, "visitors(2, 99)", x.visitors(2, 99), 0);
        check.refused(x, "visitors(3, 100)", x.visitors(3, 100), 1);
        check.refused(x, "visitors(3, -1)", x.visitors(3, -1), 1);
        check.refused(x, "visitors(6, 1)", x.visitors(6, 1), 1);
        x = Texts.of("house a;house b;door a b;person p in a dead;person q in b;owes p q 1;");
        x.night(2);
        check.gives(x, "no GHOST any more", x.visitors(1, 5), 0);
    }

    private static void promise37Stays() {
        SorryWalk x = Texts.of(LAND);
        check.gives(x, "stays(0, 0, 5)", x.stays(0, 0, 5), 0);
        check.gives(x, "stays(0, 1, 5)", x.stays(0, 1, 5), 1);
        check.gives(x, "stays(0, 4, 5)", x.stays(0, 4, 5), 3);
        check.gives(x, "stays(0, 4, 0)", x.stays(0, 4, 0), 0);
        check.gives(x, "stays(1, 4, 99)", x.stays(1, 4, 99), 99);
        check.gives(x, "stays(4, 3, 99): at rest, too", x.stays(4, 3, 99), 99);
        check.refused(x, "stays(0, 0, 100)", x.stays(0, 0, 100), 1);
        check.refused(x, "stays(0, 0, -1)", x.stays(0, 0, -1), 1);
        check.refused(x, "stays(0, 6, 1)", x.stays(0, 6, 1), 1);
        check.refused(x, "stays(5, 0, 1)", x.stays(5, 0, 1), 1);
    }

    private static void promise38Must() {
        SorryWalk x = Texts.of(LAND);
        check.gives(x, "must(0, 4)", x.must(0, 4), 8);
        check.gives(x, "must(0, 3)", x.must(0, 3), 0);
        check.gives(x, "must(0, 0)", x.must(0, 0), 0);
        check.gives(x, "must(0, 1)", x.must(0, 1), 0);
        check.refused(x, "must(0, 5)", x.must(0, 5), 6);
        check.refused(x, "must(0, 6)", x.must(0, 6), 1);
        check.refused(x, "must(5, 0)", x.must(5, 0), 1);
        x.salt(1, true);
        check.gives(x, "SALT minded", x.must(0, 4), 12);
        check.gives(x, "of a living one", x.must(1, 0), 12);
        x.salt(4, true);
        check.refused(x, "must(0, 4)", x.must(0, 4), 6);
        check.gives(x, "out of SALT", x.must(1, 0), 12);
        x = Texts.of("house a;house b;house c;house d;door a b;door b d;door a c;door c b;person p in a;");
        check.gives(x, "longer WAYS, too", x.must(0, 3), 2);
        check.gives(x, "round about", x.must(0, 1), 0);
    }

    private static void promise39Reach() {
        SorryWalk x = Texts.of(LAND);
        check.gives(x, "reach(0)", x.reach(0), 31);
        check.gives(x, "reach(3)", x.reach(3), 32);
        x.salt(3, true);
        check.gives(x, "reach(0)", x.reach(0), 7);
        check.gives(x, "reach(2), out of SALT", x.reach(2), 31);
        check.gives(x, "reach(1)", x.reach(1), 16);
        check.refused(x, "reach(5)", x.reach(5), 1);
        check.refused(x, "reach(-1)", x.reach(-1), 1);
    }

    private static void promise40Tours() {
        SorryWalk x = Texts.of(LAND);
        int[] want = {1, 2, 3, 4, 4};
        for (int k = 0; k < 5; k++) {
            check.gives(x, "tours(0, " + k + ")", x.tours(0, k), want[k]);
        }
        check.gives(x, "tours(1, 99)", x.tours(1, 99), 1);
        check.refused(x, "tours(0, 100)", x.tours(0, 100), 1);
        check.refused(x, "tours(0, -1)", x.tours(0, -1), 1);
        check.refused(x, "tours(5, 1)", x.tours(5, 1), 1);
    }

    private static void promise41Meets() {
        SorryWalk x = Texts.of(LAND);
        check.gives(x, "meets(0, 1)", x.meets(0, 1), 3);
        check.gives(x, "meets(1, 0)", x.meets(1, 0), 3);
        check.gives(x, "meets(0, 4)", x.meets(0, 4), 2);
        check.gives(x, "meets(1, 4)", x.meets(1, 4), 0);
        check.refused(x, "meets(0, 3)", x.meets(0, 3), 6);
        check.refused(x, "meets(0, 0)", x.meets(0, 0), 1);
        check.refused(x, "meets(0, 5)", x.meets(0, 5), 1);
        check.refused(x, "meets(-1, 0)", x.meets(-1, 0), 1);
        x = Texts.of("house a;house b;door a b;person p in a dead;person q in a;person r in b;owes p q 98;owes p r 1;");
        check.gives(x, "meets(0, 2)", x.meets(0, 2), 99);
        x.forge(0, 1, 1);
        check.refused(x, "meets(0, 2)", x.meets(0, 2), 6);
    }

    private static void promise42Crowd() {
        SorryWalk x = Texts.of(LAND);
        check.gives(x, "crowd(): of several the first", x.crowd(), 0);
        x.night(2);
        check.gives(x, "crowd()", x.crowd(), 3);
        x = Texts.of("house a;person p in a dead;person q in a;owes q p 3;");
        check.refused(x, "crowd()", x.crowd(), 6);
    }

    private static void promise43Busiest() {
        SorryWalk x = Texts.of(LAND);
        check.gives(x, "busiest(1)", x.busiest(1), 1);
        check.gives(x, "busiest(2)", x.busiest(2), 3);
        check.gives(x, "busiest(99)", x.busiest(99), 4);
        check.refused(x, "busiest(0)", x.busiest(0), 1);
        check.refused(x, "busiest(100)", x.busiest(100), 1);
        check.refused(x, "busiest(-1)", x.busiest(-1), 1);
        x = Texts.of("house a;person p in a dead;person q in a;owes p q 1;");
        check.refused(x, "at the ends alone", x.busiest(9), 6);
        x.forge(0, 1, 1);
        check.gives(x, "busiest(9)", x.busiest(9), 0);
    }

    private static void promise44Exposed() {
        SorryWalk x = Texts.of(LAND);
        check.gives(x, "exposed()", x.exposed(), 31);
        x.salt(3, true);
        check.gives(x, "exposed()", x.exposed(), 23);
        x.salt(4, true);
        check.gives(x, "its own, too", x.exposed(), 23);
        check.gives(x, "exposed() of none", Texts.of(ROADS).exposed(), 0);
        x = Texts.of(ROADS + "person p in a dead;person q in a;");
        check.gives(x, "no GHOSTS", x.exposed(), 0);
    }

    private static void promise45Wells() {
        SorryWalk x = Texts.of("house a;house b;door a b;person p in a dead;person q in b keeps;owes p q 1;");
        check.gives(x, "wells(1, 0)", x.wells(1, 0), 0);
        check.gives(x, "wells(1, 1)", x.wells(1, 1), 0);
        check.gives(x, "wells(1, 4)", x.wells(1, 4), 3);
        check.gives(x, "wells(0, 999)", x.wells(0, 999), 0);
        x.night(6);
        check.gives(x, "wells(1, 999)", x.wells(1, 999), 1004);
        check.gives(x, "wells(1, 0)", x.wells(1, 0), 5);
        check.refused(x, "wells(1, 1000)", x.wells(1, 1000), 1);
        check.refused(x, "wells(1, -1)", x.wells(1, -1), 1);
        check.refused(x, "wells(2, 1)", x.wells(2, 1), 1);
    }

    private static void promise46Ways() {
        SorryWalk x = Texts.of(LAND);
        check.gives(x, "ways(0, 4)", x.ways(0, 4), 2);
        check.gives(x, "ways(0, 3)", x.ways(0, 3), 2);
        check.gives(x, "ways(0, 1)", x.ways(0, 1), 1);
        check.gives(x, "ways(0, 0)", x.ways(0, 0), 1);
        check.refused(x, "ways(0, 5)", x.ways(0, 5), 6);
        check.refused(x, "ways(0, 6)", x.ways(0, 6), 1);
        check.refused(x, "ways(5, 0)", x.ways(5, 0), 1);
        x.salt(1, true);
        check.gives(x, "ways(0, 4)", x.ways(0, 4), 1);
        x = Texts.of("house a;house b;house c;house d;house e;house f;house g;door a b;door a c;door a d;"
            + "door b e;door c e;door d e;door b f;door c f;door d f;door e g;door f g;door b c;door e f;person p in a;");
        check.gives(x, "ways(0, 6)", x.ways(0, 6), 6);
    }

    private static void lookingAheadChangesNothing() {
        SorryWalk x = Texts.of(LAND);
        x.walks(0, 999);
        x.later(0, 999);
        x.rest(0);
        x.quiet(4);
        x.harvest(4, 9);
        x.visitors(3, 99);
        x.stays(0, 3, 99);
        x.tours(0, 99);
        x.meets(0, 3);
        x.busiest(99);
        x.wells(0, 999);
        x.keeper();
        x.pardon(4, 20);
        x.saint();
        x.loss(1);
        x.bestSalt();
        x.wedding(1);
        int[] want = {6, 5, 5, 0, 0, 9, 0, 17, 17, 0};
        for (int what = 0; what < 10; what++) {
            check.gives(x, "told(" + what + ")", x.told(what), want[what]);
        }
        check.gives(x, "person(0, 0)", x.person(0, 0), 0);
    }

    private static void nightsBeyondTheLimit() {
        SorryWalk x = Texts.of("house a;person p in a dead;person q in a deaf;");
        for (int k = 0; k < 101; k++) {
            x.night(99);
        }
        check.due("told(3)", x.told(3), 9999);
        x.forge(0, 1, 3);
        check.gives(x, "rest(0): uneven NIGHTS are 10,001, 10,003, 10,005", x.rest(0), 6);
        check.gives(x, "later(0, 2)", x.later(0, 2), 2);
    }
}
