/** Promises 28 to 46 and the terms REST, QUIET, HARVEST, MUST: boundary cases. */
public final class WalkEdgeTest {
    private static final Cases cases = new Cases("WalkEdgeTest");
    /** Seven HOUSES in a row. */
    private static final String ROW = "house a;house b;house c;house d;house e;house f;house g;"
        + "door a b;door b c;door c d;door d e;door e f;door f g;";
    /** One who is DEAD in the one HOUSE with one who lives; how many he owes is told behind. */
    private static final String HERE = "house a;person p in a dead;person q in a;owes p q ";
    private static final String KEPT = "house a;house b;door a b;person p in a dead;person q in b keeps;owes p q 1;";

    public static void main(String[] args) {
        way();
        aim();
        step();
        ahead();
        beyondTheLastNight();
        rest();
        quiet();
        harvest();
        visitors();
        stays();
        must();
        reach();
        tours();
        meets();
        crowd();
        busiest();
        exposed();
        wells();
        ways();
        cases.end();
    }

    private static SorryWalk lastNight(String land) {
        SorryWalk x = Texts.of(land);
        for (int k = 0; k < 101; k++) {
            x.night(99);
        }
        return x;
    }

    private static void way() {
        cases.edge("28: 0: it is there", check -> {
            SorryWalk x = Texts.of(ROW + "person p in g;");
            check.gives(x, "way(0, 6)", x.way(0, 6), 0);
        });
        cases.edge("28: 0: it is there, with SALT", check -> {
            SorryWalk x = Texts.of("house a salt;person p in a;");
            check.gives(x, "way(0, 0)", x.way(0, 0), 0);
        });
        cases.edge("28: 6 DOORS, the longest WAY there can be", check -> {
            SorryWalk x = Texts.of(ROW + "person p in g;");
            check.gives(x, "way(0, 0)", x.way(0, 0), 6);
        });
        cases.edge("28: at the least", check -> {
            SorryWalk x = Texts.of(ROW + "door a g;person p in g;");
            check.gives(x, "way(0, 0)", x.way(0, 0), 1);
            check.gives(x, "way(0, 3)", x.way(0, 3), 3);
        });
        cases.edge("28: no WAY without DOORS", check -> {
            SorryWalk x = Texts.of("house a;house b;person p in a;");
            check.refused(x, "way(0, 1)", x.way(0, 1), 6);
        });
        cases.edge("28: no WAY into SALT, nor through it", check -> {
            SorryWalk x = Texts.of("house a;house b salt;house c;door a b;door b c;person p in a;");
            check.refused(x, "way(0, 1)", x.way(0, 1), 6);
            check.refused(x, "way(0, 2)", x.way(0, 2), 6);
        });
        cases.edge("28: out of SALT", check -> {
            SorryWalk x = Texts.of("house a;house b salt;house c;door a b;door b c;person p in b;");
            check.gives(x, "way(0, 2)", x.way(0, 2), 1);
        });
        cases.edge("28: from where it is, not from its HOME", check -> {
            SorryWalk x = Texts.of(ROW + "person p in a dead;person q in g;owes p q 1;");
            x.night(2);
            check.gives(x, "way(0, 6)", x.way(0, 6), 4);
            check.gives(x, "way(0, 0)", x.way(0, 0), 2);
        });
    }

    private static void aim() {
        cases.edge("29: 6: a living one who owes", check -> {
            SorryWalk x = Texts.of("house a;person p in a;person q in a;owes p q 9;");
            check.refused(x, "aim(0)", x.aim(0), 6);
        });
        cases.edge("29: 6: a DEAD one who owes nothing", check -> {
            SorryWalk x = Texts.of("house a;person p in a dead;person q in a;owes q p 9;");
            check.refused(x, "aim(0)", x.aim(0), 6);
        });
        cases.edge("29: 6: a GHOST that has none", check -> {
            SorryWalk x = Texts.of("house a;house b;person p in a dead;person q in b;owes p q 9;");
            check.refused(x, "aim(0)", x.aim(0), 6);
        });
        cases.edge("29: a GHOST's own HOUSE", check -> {
            SorryWalk x = Texts.of(HERE + "1;");
            check.gives(x, "aim(0)", x.aim(0), 1);
        });
        cases.edge("29: 6 DOORS off", check -> {
            SorryWalk x = Texts.of(ROW + "person q in a;person p in g dead;owes p q 1;");
            check.gives(x, "aim(1)", x.aim(1), 0);
        });
        cases.edge("29: a DEAD one is an AIM, too", check -> {
            SorryWalk x = Texts.of("house a;person p in a dead;person q in a dead;owes p q 9;");
            check.gives(x, "aim(0)", x.aim(0), 1);
        });
    }

    private static void step() {
        cases.edge("30: one who owes nothing stays", check -> {
            SorryWalk x = Texts.of("house a;house b;door a b;person p in b dead;person q in a;owes q p 9;");
            check.gives(x, "step(0)", x.step(0), 1);
        });
        cases.edge("30: one whose AIM is there stays", check -> {
            SorryWalk x = Texts.of("house a;house b;door a b;person p in b dead;person q in b;owes p q 9;");
            check.gives(x, "step(0)", x.step(0), 1);
        });
        cases.edge("30: one without an AIM stays", check -> {
            SorryWalk x = Texts.of("house a salt;house b;door a b;person p in b dead;person q in a;owes p q 9;");
            check.gives(x, "step(0)", x.step(0), 1);
        });
        cases.edge("30: it alone walks", check -> {
            SorryWalk x = Texts.of(ROW + "person p in a dead;person q in g dead;person r in f;owes p q 1;owes q p 1;");
            check.gives(x, "step(0)", x.step(0), 1);
            check.gives(x, "step(1)", x.step(1), 5);
            check.gives(x, "nobody went", x.person(0, 0), 0);
        });
        cases.edge("30: if it were a GHOST: a living one who owes", check -> {
            SorryWalk x = Texts.of("house a;house b;door a b;person p in b;person q in a;owes p q 9;");
            check.gives(x, "step(0)", x.step(0), 0);
        });
    }

    private static void ahead() {
        String land = ROW + "person p in a dead;person q in g;owes p q 99;";
        cases.edge("31: 0 NIGHTS: where it is now", check -> check.gives(Texts.of(land), "walks(0, 0)", Texts.of(land).walks(0, 0), 0));
        cases.edge("31: 6 NIGHTS, one ahead, one behind", check -> {
            SorryWalk x = Texts.of(land);
            check.gives(x, "walks(0, 5)", x.walks(0, 5), 5);
            check.gives(x, "walks(0, 6)", x.walks(0, 6), 6);
            check.gives(x, "walks(0, 7)", x.walks(0, 7), 6);
        });
        cases.edge("31: 999 NIGHTS", check -> {
            SorryWalk x = Texts.of("house a;house b;house c;house d;door a b;door c d;person p in a dead;person q in a keeps;owes p q 1;");
            check.gives(x, "walks(0, 999)", x.walks(0, 999), 0);
            check.gives(x, "walks(1, 999)", x.walks(1, 999), 0);
        });
        cases.edge("31: at the last NIGHT of 999 it goes", check -> {
            SorryWalk x = Texts.of(lastStep());
            check.gives(x, "walks(0, 998)", x.walks(0, 998), 0);
            check.gives(x, "walks(0, 999)", x.walks(0, 999), 1);
        });
        cases.edge("32: 0 NIGHTS: what it owes now", check -> check.gives(Texts.of(land), "later(0, 0)", Texts.of(land).later(0, 0), 99));
        cases.edge("32: all is said in 105 NIGHTS", check -> {
            SorryWalk x = Texts.of(land);
            check.gives(x, "later(0, 104)", x.later(0, 104), 1);
            check.gives(x, "later(0, 105)", x.later(0, 105), 0);
            check.gives(x, "later(0, 999)", x.later(0, 999), 0);
        });
        cases.edge("32: what a living one owes stays", check -> {
            SorryWalk x = Texts.of("house a;person p in a;person q in a;owes p q 7;");
            check.gives(x, "later(0, 999)", x.later(0, 999), 7);
        });
        cases.edge("32: in 999 NIGHTS the last", check -> {
            SorryWalk x = Texts.of(lastStep());
            check.gives(x, "later(0, 997)", x.later(0, 997), 2);
            check.gives(x, "later(0, 998)", x.later(0, 998), 1);
            check.gives(x, "later(0, 999)", x.later(0, 999), 1);
        });
    }

    /** One who says SORRIES in a for just 998 NIGHTS and goes to b in the next. */
    private static String lastStep() {
        StringBuilder b = new StringBuilder("house a;house b;door a b;person p in a dead;person z in b;owes p z 1;");
        int[] each = {98, 99, 99, 99, 99};
        for (int k = 0; k < each.length; k++) {
            char c = (char) ('q' + k);
            b.append("person ").append(c).append(" in a deaf;owes p ").append(c).append(' ').append(each[k]).append(';');
        }
        return b + "person y in a;owes p y 11;";
    }

    private static void beyondTheLastNight() {
        cases.edge("REST: 9,999 does not matter", check -> {
            SorryWalk x = lastNight(ROW + "person p in a dead;person q in g;");
            x.forge(0, 1, 2);
            check.gives(x, "rest(0)", x.rest(0), 8);
            check.gives(x, "walks(0, 4)", x.walks(0, 4), 4);
            check.gives(x, "later(0, 7)", x.later(0, 7), 1);
            check.gives(x, "told(3)", x.told(3), 9999);
        });
        cases.edge("REST: NIGHT 10,000 is even, 10,001 is not", check -> {
            SorryWalk x = lastNight("house a;person p in a dead;person q in a deaf;");
            x.forge(0, 1, 1);
            check.gives(x, "later(0, 1)", x.later(0, 1), 1);
            check.gives(x, "rest(0)", x.rest(0), 2);
        });
        cases.edge("QUIET: 9,999 does not matter", check -> {
            SorryWalk x = lastNight("house a;person p in a dead;person q in a;");
            x.forge(0, 1, 3);
            check.gives(x, "quiet(0)", x.quiet(0), 3);
            check.gives(x, "visitors(0, 9)", x.visitors(0, 9), 1);
            check.gives(x, "busiest(9)", x.busiest(9), 0);
        });
        cases.edge("HARVEST: 9,999 does not matter", check -> {
            SorryWalk x = lastNight("house a;house b;door a b;person p in a dead;person q in b keeps;");
            x.forge(0, 1, 1);
            check.gives(x, "harvest(1, 3)", x.harvest(1, 3), 4);
            check.gives(x, "wells(1, 999)", x.wells(1, 999), 998);
            check.gives(x, "meets(0, 1)", x.meets(0, 1), 1);
            check.gives(x, "tours(0, 5)", x.tours(0, 5), 2);
            check.gives(x, "stays(0, 1, 5)", x.stays(0, 1, 5), 5);
        });
    }

    private static void rest() {
        cases.edge("33: a living one: 0, though it owes", check -> {
            SorryWalk x = Texts.of("house a;person p in a;person q in a;owes p q 9;");
            check.gives(x, "rest(0)", x.rest(0), 0);
        });
        cases.edge("33: a DEAD one who owes nothing: 0", check -> {
            SorryWalk x = Texts.of(HERE + "0;");
            check.gives(x, "rest(0)", x.rest(0), 0);
        });
        cases.edge("33: 1 NIGHT", check -> {
            SorryWalk x = Texts.of(HERE + "1;");
            check.gives(x, "rest(0)", x.rest(0), 1);
        });
        cases.edge("33: just 999", check -> {
            SorryWalk x = Texts.of(many(999));
            check.gives(x, "rest(0)", x.rest(0), 999);
        });
        cases.edge("33: 1,000 are not in 999", check -> {
            SorryWalk x = Texts.of(many(1000));
            check.refused(x, "rest(0)", x.rest(0), 6);
            x.night(1);
            check.gives(x, "but then", x.rest(0), 999);
        });
        cases.edge("33: never", check -> {
            SorryWalk x = Texts.of(KEPT);
            check.refused(x, "rest(0)", x.rest(0), 6);
        });
        cases.edge("33: by another's SORRY", check -> {
            SorryWalk x = Texts.of("house a;person p in a dead;person q in a dead;owes p q 9;owes q p 50;");
            check.gives(x, "rest(1)", x.rest(1), 1);
        });
    }

    /** One who says SORRIES in one HOUSE in each of so many NIGHTS, above 990, and is at rest then. */
    private static String many(int nights) {
        StringBuilder b = new StringBuilder("house a;person p in a dead;");
        // 495 SORRIES to DEAF ones are heard in NIGHTS 1, 3 .. 989
        for (char c = 'q'; c <= 'u'; c++) {
            b.append("person ").append(c).append(" in a deaf;owes p ").append(c).append(" 99;");
        }
        return b + "person z in a;owes p z " + (nights - 989) + ";";
    }

    private static void quiet() {
        cases.edge("34: 0: no GHOST is there now", check -> {
            SorryWalk x = Texts.of(ROW + "person p in a dead;person q in g;owes p q 1;");
            check.gives(x, "quiet(1)", x.quiet(1), 0);
            check.gives(x, "quiet(0)", x.quiet(0), 1);
        });
        cases.edge("34: 0: who is DEAD and owes nothing is no GHOST", check -> check.gives(Texts.of(HERE + "0;"), "quiet(0)",
            Texts.of(HERE + "0;").quiet(0), 0));
        cases.edge("34: just 99", check -> {
            SorryWalk x = Texts.of(HERE + "99;");
            check.gives(x, "quiet(0)", x.quiet(0), 99);
        });
        cases.edge("34: 100 are not in 99", check -> {
            SorryWalk x = Texts.of("house a;person p in a dead;person q in a;person r in a;owes p q 99;owes p r 1;");
            check.refused(x, "quiet(0)", x.quiet(0), 6);
            x.night(1);
            check.gives(x, "but then", x.quiet(0), 99);
        });
        cases.edge("34: first, though one comes behind", check -> {
            SorryWalk x = Texts.of(ROW + "person p in a dead;person q in g keeps;person r in g dead;person s in a keeps;owes p q 1;owes r s 1;");
            check.gives(x, "quiet(0)", x.quiet(0), 1);
            check.gives(x, "quiet(6)", x.quiet(6), 1);
            check.gives(x, "visitors(0, 99)", x.visitors(0, 99), 5);
        });
        cases.edge("34: one comes in the NIGHT in which another goes", check -> {
            SorryWalk x = Texts.of("house a;house b;door a b;person p in a dead;person q in b;person r in b dead;person s in a;"
                + "owes p q 5;owes r s 9;");
            check.gives(x, "r comes when p goes", x.quiet(0), 10);
        });
    }

    private static void harvest() {
        cases.edge("35: of 0 LABOUR: now", check -> check.gives(Texts.of(KEPT), "harvest(0, 0)", Texts.of(KEPT).harvest(0, 0), 0));
        cases.edge("35: of what is there: now", check -> {
            SorryWalk x = Texts.of(KEPT);
            x.night(6);
            check.gives(x, "harvest(1, 5)", x.harvest(1, 5), 0);
            check.gives(x, "harvest(1, 6)", x.harvest(1, 6), 1);
        });
        cases.edge("35: just in 999", check -> {
            SorryWalk x = Texts.of(KEPT);
            check.gives(x, "harvest(1, 998)", x.harvest(1, 998), 999);
        });
        cases.edge("35: not in 999", check -> {
            SorryWalk x = Texts.of(KEPT);
            check.refused(x, "harvest(1, 999)", x.harvest(1, 999), 6);
            check.refused(x, "harvest(1, 9999)", x.harvest(1, 9999), 6);
        });
        cases.edge("35: 9,999 when it is done", check -> {
            StringBuilder b = new StringBuilder("house a;person k in a keeps;");
            for (char c = 'l'; c <= 'r'; c++) {
                b.append("person ").append(c).append(" in a dead;owes ").append(c).append(" k 1;");
            }
            SorryWalk x = Texts.of(b.toString());
            check.refused(x, "harvest(0, 9999)", x.harvest(0, 9999), 6);
            check.gives(x, "7 a NIGHT", x.harvest(0, 6993), 999);
            check.refused(x, "harvest(0, 6994)", x.harvest(0, 6994), 6);
            for (int k = 0; k < 14; k++) {
                x.night(99);
            }
            check.gives(x, "9,702 are done, 297 are left", x.harvest(0, 9999), 43);
        });
    }

    private static void visitors() {
        String land = ROW + "person p in a dead;person q in g;owes p q 2;";
        cases.edge("36: now alone in 0 NIGHTS", check -> {
            SorryWalk x = Texts.of(land);
            check.gives(x, "visitors(0, 0)", x.visitors(0, 0), 1);
            check.gives(x, "visitors(1, 0)", x.visitors(1, 0), 0);
        });
        cases.edge("36: at the end of the last NIGHT", check -> {
            SorryWalk x = Texts.of(land);
            check.gives(x, "visitors(6, 5)", x.visitors(6, 5), 0);
            check.gives(x, "visitors(6, 6)", x.visitors(6, 6), 1);
        });
        cases.edge("36: one who comes to rest is no GHOST at the end", check -> {
            SorryWalk x = Texts.of(land);
            x.night(6);
            check.gives(x, "now it is one", x.visitors(6, 0), 1);
            x.night(2);
            check.gives(x, "visitors(6, 99)", x.visitors(6, 99), 0);
        });
        cases.edge("36: in NIGHT 99 of 99", check -> {
            SorryWalk x = Texts.of("house a;house b;door a b;person p in a dead;person q in a;person r in b;owes p q 98;owes p r 1;");
            check.gives(x, "visitors(1, 98)", x.visitors(1, 98), 0);
            check.gives(x, "visitors(1, 99)", x.visitors(1, 99), 1);
        });
        cases.edge("36: seven GHOSTS", check -> {
            StringBuilder b = new StringBuilder("house a;person k in a;");
            for (char c = 'l'; c <= 'r'; c++) {
                b.append("person ").append(c).append(" in a dead;owes ").append(c).append(" k 1;");
            }
            SorryWalk x = Texts.of(b.toString());
            check.gives(x, "visitors(0, 0)", x.visitors(0, 0), 254);
        });
    }

    private static void stays() {
        String land = ROW + "person p in a dead;person q in g;owes p q 1;";
        cases.edge("37: of 0 NIGHTS none", check -> {
            SorryWalk x = Texts.of(land);
            check.gives(x, "stays(0, 0, 0)", x.stays(0, 0, 0), 0);
        });
        cases.edge("37: at the end, not now", check -> {
            SorryWalk x = Texts.of(land);
            check.gives(x, "stays(0, 0, 99)", x.stays(0, 0, 99), 0);
            check.gives(x, "stays(0, 1, 99)", x.stays(0, 1, 99), 1);
            check.gives(x, "stays(0, 6, 5)", x.stays(0, 6, 5), 0);
            check.gives(x, "stays(0, 6, 6)", x.stays(0, 6, 6), 1);
            check.gives(x, "stays(0, 6, 99)", x.stays(0, 6, 99), 94);
        });
        cases.edge("37: a living one all 99", check -> {
            SorryWalk x = Texts.of(land);
            check.gives(x, "stays(1, 6, 99)", x.stays(1, 6, 99), 99);
            check.gives(x, "stays(1, 0, 99)", x.stays(1, 0, 99), 0);
        });
    }

    private static void must() {
        cases.edge("38: all five between the ends of seven", check -> {
            SorryWalk x = Texts.of(ROW + "person p in a;");
            check.gives(x, "must(0, 6)", x.must(0, 6), 62);
        });
        cases.edge("38: not the first, not the last", check -> {
            SorryWalk x = Texts.of(ROW + "person p in a;");
            check.gives(x, "must(0, 1)", x.must(0, 1), 0);
        });
        cases.edge("38: it is there", check -> {
            SorryWalk x = Texts.of(ROW + "person p in d;");
            check.gives(x, "must(0, 3)", x.must(0, 3), 0);
        });
        cases.edge("38: it is there, with SALT", check -> {
            SorryWalk x = Texts.of("house a salt;house b;door a b;person p in a;");
            check.gives(x, "must(0, 0)", x.must(0, 0), 0);
        });
        cases.edge("38: in a ring none", check -> {
            SorryWalk x = Texts.of(ROW + "door g a;person p in a;");
            check.gives(x, "must(0, 3)", x.must(0, 3), 0);
        });
        cases.edge("38: in a ring with SALT all on the one side", check -> {
            SorryWalk x = Texts.of(ROW + "door g a;person p in a;");
            x.salt(6, true);
            check.gives(x, "must(0, 3)", x.must(0, 3), 6);
        });
        cases.edge("38: the longer WAY counts, too", check -> {
            SorryWalk x = Texts.of("house a;house b;house c;house d;door a b;door b d;door a c;door c d;door b c;person p in a;");
            check.gives(x, "must(0, 3)", x.must(0, 3), 0);
            x.wall(0, 2, false);
            check.gives(x, "must(0, 3)", x.must(0, 3), 2);
        });
        cases.edge("38: the first HOUSE is between", check -> {
            SorryWalk x = Texts.of("house a;house b;house c;door b a;door a c;person p in b;");
            check.gives(x, "must(0, 2)", x.must(0, 2), 1);
        });
        cases.edge("38: 6: no WAY, into SALT or without a DOOR", check -> {
            SorryWalk x = Texts.of("house a;house b salt;house c;door a b;person p in a;");
            check.refused(x, "must(0, 1)", x.must(0, 1), 6);
            check.refused(x, "must(0, 2)", x.must(0, 2), 6);
        });
    }

    private static void reach() {
        cases.edge("39: its own alone, with SALT, too", check -> {
            SorryWalk x = Texts.of("house a;house b salt;person p in b;");
            check.gives(x, "reach(0)", x.reach(0), 2);
        });
        cases.edge("39: all seven", check -> {
            SorryWalk x = Texts.of(ROW + "person p in g;");
            check.gives(x, "reach(0)", x.reach(0), 127);
        });
        cases.edge("39: to SALT and no further", check -> {
            SorryWalk x = Texts.of(ROW + "person p in a;");
            x.salt(3, true);
            check.gives(x, "reach(0)", x.reach(0), 7);
        });
        cases.edge("39: out of SALT on both sides", check -> {
            SorryWalk x = Texts.of(ROW + "person p in d;");
            x.salt(3, true);
            check.gives(x, "reach(0)", x.reach(0), 127);
        });
    }

    private static void tours() {
        cases.edge("40: now, in 0 NIGHTS: 1", check -> {
            SorryWalk x = Texts.of(ROW + "person p in a dead;person q in g;owes p q 1;");
            check.gives(x, "tours(0, 0)", x.tours(0, 0), 1);
        });
        cases.edge("40: all seven in 6 NIGHTS, and not more in 99", check -> {
            SorryWalk x = Texts.of(ROW + "person p in a dead;person q in g;owes p q 1;");
            check.gives(x, "tours(0, 5)", x.tours(0, 5), 6);
            check.gives(x, "tours(0, 6)", x.tours(0, 6), 7);
            check.gives(x, "tours(0, 99)", x.tours(0, 99), 7);
        });
        cases.edge("40: one who stays: 1, in 99 NIGHTS, too", check -> {
            SorryWalk x = Texts.of(ROW + "person p in a dead;person q in g;owes p q 1;");
            check.gives(x, "tours(1, 99)", x.tours(1, 99), 1);
        });
        cases.edge("40: a HOUSE twice counts once", check -> {
            SorryWalk x = Texts.of("house a;house b;house c;door a b;door b c;person p in b dead;person q in a;person r in c;owes p q 1;owes p r 1;");
            check.gives(x, "tours(0, 99)", x.tours(0, 99), 3);
        });
    }

    private static void meets() {
        cases.edge("41: 0: now", check -> {
            SorryWalk x = Texts.of("house a;person p in a;person q in a;");
            check.gives(x, "meets(0, 1)", x.meets(0, 1), 0);
        });
        cases.edge("41: just 99", check -> {
            SorryWalk x = Texts.of("house a;house b;door a b;person p in a dead;person q in a;person r in b;owes p q 98;owes p r 1;");
            check.gives(x, "meets(0, 2)", x.meets(0, 2), 99);
            check.gives(x, "meets(2, 0)", x.meets(2, 0), 99);
        });
        cases.edge("41: 100 are not in 99", check -> {
            SorryWalk x = Texts.of("house a;house b;door a b;person p in a dead;person q in a;person r in b;owes p q 99;owes p r 1;");
            check.refused(x, "meets(0, 2)", x.meets(0, 2), 6);
        });
        cases.edge("41: two living ones never", check -> {
            SorryWalk x = Texts.of("house a;house b;door a b;person p in a;person q in b;");
            check.refused(x, "meets(0, 1)", x.meets(0, 1), 6);
        });
        cases.edge("41: at the end of a NIGHT, not passing by", check -> {
            SorryWalk x = Texts.of("house a;house b;door a b;person p in a dead;person q in b dead;person r in b keeps;person s in a keeps;owes p r 1;owes q s 1;");
            check.refused(x, "meets(0, 1)", x.meets(0, 1), 6);
        });
    }

    private static void crowd() {
        cases.edge("42: one GHOST", check -> check.gives(Texts.of(HERE + "1;"), "crowd()", Texts.of(HERE + "1;").crowd(), 0));
        cases.edge("42: of several the first", check -> {
            SorryWalk x = Texts.of(ROW + "person p in g dead;person q in c dead;person r in a;owes p r 1;owes q r 1;");
            check.gives(x, "crowd()", x.crowd(), 2);
        });
        cases.edge("42: the last HOUSE", check -> {
            SorryWalk x = Texts.of(ROW + "person p in g dead;person q in c dead;person s in g dead;person r in a;owes p r 1;owes q r 1;owes s r 1;");
            check.gives(x, "crowd()", x.crowd(), 6);
        });
        cases.edge("42: the DEAD who owe nothing do not count", check -> {
            SorryWalk x = Texts.of(ROW + "person p in a dead;person q in a dead;person r in b dead;owes r p 1;");
            check.gives(x, "crowd()", x.crowd(), 1);
        });
        cases.edge("42: 6: there are no GHOSTS, though the living owe", check -> {
            SorryWalk x = Texts.of("house a;person p in a;person q in a dead;owes p q 1;");
            check.refused(x, "crowd()", x.crowd(), 6);
        });
    }

    private static void busiest() {
        cases.edge("43: at the ends, not now", check -> {
            SorryWalk x = Texts.of("house a;house b;door a b;person p in a dead;person q in b;owes p q 5;");
            check.gives(x, "busiest(1)", x.busiest(1), 1);
        });
        cases.edge("43: of several the first", check -> {
            SorryWalk x = Texts.of(ROW + "person p in a dead;person q in g;owes p q 1;");
            check.gives(x, "busiest(6)", x.busiest(6), 1);
        });
        cases.edge("43: together, over 99 NIGHTS", check -> {
            SorryWalk x = Texts.of(ROW + "person p in a dead;person q in g;owes p q 2;");
            check.gives(x, "b .. f once each, g twice", x.busiest(99), 6);
        });
        cases.edge("43: 6: never one, though one is there now", check -> {
            SorryWalk x = Texts.of(HERE + "1;");
            check.refused(x, "busiest(99)", x.busiest(99), 6);
        });
        cases.edge("42, 43: asked again they answer the same", check -> {
            SorryWalk x = Texts.of("house a;house b;door a b;person p in a dead;person q in b;owes p q 1;");
            for (int k = 0; k < 4; k++) {
                check.gives(x, "crowd()", x.crowd(), 0);
                check.gives(x, "busiest(9)", x.busiest(9), 1);
            }
        });
        cases.edge("43: the 99th NIGHT counts", check -> {
            SorryWalk x = Texts.of("house b;house a;door a b;person p in a dead;person q in a;person r in b dead;person s in b;"
                + "owes p q 99;owes p s 1;owes r s 99;");
            check.gives(x, "both houses have 98 and p's last is in a", x.busiest(98), 0);
            check.gives(x, "p is a GHOST in a at the end of the 99th", x.busiest(99), 1);
        });
    }

    private static void exposed() {
        cases.edge("44: no GHOST: none", check -> {
            SorryWalk x = Texts.of(ROW + "person p in a dead;person q in a;owes q p 1;");
            check.gives(x, "exposed()", x.exposed(), 0);
        });
        cases.edge("44: its own, with SALT, too", check -> {
            SorryWalk x = Texts.of("house a;house b salt;person p in b dead;person q in a;owes p q 1;");
            check.gives(x, "exposed()", x.exposed(), 2);
        });
        cases.edge("44: all seven", check -> {
            SorryWalk x = Texts.of(ROW + "person p in d dead;person q in a;owes p q 1;");
            check.gives(x, "exposed()", x.exposed(), 127);
        });
        cases.edge("44: of some GHOST, of two sides", check -> {
            SorryWalk x = Texts.of(ROW + "person p in a dead;person q in g dead;owes p q 1;owes q p 1;");
            x.salt(3, true);
            check.gives(x, "exposed()", x.exposed(), 127 - 8);
        });
    }

    private static void wells() {
        cases.edge("45: in 0 NIGHTS: now", check -> {
            SorryWalk x = Texts.of(KEPT);
            x.night(4);
            check.gives(x, "wells(1, 0)", x.wells(1, 0), 3);
        });
        cases.edge("45: in 999 NIGHTS", check -> check.gives(Texts.of(KEPT), "wells(1, 999)", Texts.of(KEPT).wells(1, 999), 998));
        cases.edge("45: to 9,999", check -> {
            StringBuilder b = new StringBuilder("house a;person k in a keeps;");
            for (char c = 'l'; c <= 'r'; c++) {
                b.append("person ").append(c).append(" in a dead;owes ").append(c).append(" k 1;");
            }
            SorryWalk x = Texts.of(b.toString());
            for (int k = 0; k < 14; k++) {
                x.night(99);
            }
            check.gives(x, "wells(0, 42)", x.wells(0, 42), 9996);
            check.gives(x, "wells(0, 43)", x.wells(0, 43), 9999);
            check.gives(x, "wells(0, 999)", x.wells(0, 999), 9999);
        });
    }

    private static void ways() {
        cases.edge("46: 1: it is there, with SALT, too", check -> {
            SorryWalk x = Texts.of("house a salt;house b;door a b;person p in a;");
            check.gives(x, "ways(0, 0)", x.ways(0, 0), 1);
        });
        cases.edge("46: one of 6 DOORS", check -> {
            SorryWalk x = Texts.of(ROW + "person p in a;");
            check.gives(x, "ways(0, 6)", x.ways(0, 6), 1);
        });
        cases.edge("46: to the first HOUSE, and through it", check -> {
            SorryWalk x = Texts.of("house a;house b;house c;door b a;door a c;person p in b;");
            check.gives(x, "ways(0, 0)", x.ways(0, 0), 1);
            check.gives(x, "ways(0, 2)", x.ways(0, 2), 1);
        });
        cases.edge("46: the shortest ones alone", check -> {
            SorryWalk x = Texts.of("house a;house b;house c;door a b;door b c;door a c;person p in a;");
            check.gives(x, "ways(0, 2)", x.ways(0, 2), 1);
        });
        cases.edge("46: the two of a ring of six", check -> {
            SorryWalk x = Texts.of("house a;house b;house c;house d;house e;house f;door a b;door b c;door c d;door d e;door e f;door f a;person p in a;");
            check.gives(x, "ways(0, 3)", x.ways(0, 3), 2);
            x.salt(1, true);
            check.gives(x, "SALT on one", x.ways(0, 3), 1);
            x.salt(5, true);
            check.refused(x, "SALT on both", x.ways(0, 3), 6);
        });
        cases.edge("46: six, the most in seven HOUSES", check -> {
            SorryWalk x = Texts.of("house a;house b;house c;house d;house e;house f;house g;door a b;door a c;door a d;"
                + "door b e;door b f;door c e;door c f;door d e;door d f;door e g;door f g;person p in a;");
            check.gives(x, "ways(0, 6)", x.ways(0, 6), 6);
        });
    }
}
