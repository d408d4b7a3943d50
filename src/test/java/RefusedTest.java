/**
 * "With another STATUS than 0 a call gives NONE, or false, and changes nothing else": each refusal with STATUS 2 to 9
 * that the document names, in a LAND of which all is compared with that of a twin which was not asked.
 * (Those with STATUS 1 are in BoundsTest.)
 */
public final class RefusedTest {
    private static final Cases cases = new Cases("RefusedTest");

    /** p, s are DEAD, s in a HOUSE without DOORS; c has SALT. */
    private static final String RICH = "house a;house b;house c salt;house d;door a b;door b c;"
        + "person p in a dead;person q in b keeps;person r in c deaf;person s in d dead;person t in b;person u in d dead;"
        + "owes p q 5;owes p r 2;owes q p 3;owes s t 4;owes t r 1;owes s u 6;heir q t;heir q r;heir r s;heir t q;heir q s;";

    private static final String[] OF_RICH = {
        "write 3 0 5 = 2, the TRAY is MISSING", "write 0 6 5 = 3, a place behind the last", "write 0 -1 5 = 3, a place below 0",
        "write 2 0 5 = 3, a TRAY of 0 numbers", "read 3 0 = 2, the TRAY is MISSING", "read 0 6 = 3, a place behind the last",
        "read 0 -1 = 3, a place below 0", "read 2 0 = 3, a TRAY of 0 numbers",
        "pour 3 0 0 0 1 = 2, from a TRAY that is MISSING", "pour 0 0 3 0 1 = 2, to a TRAY that is MISSING",
        "pour 0 0 1 0 1 = 8, unlike sorts", "pour 0 6 0 0 1 = 3, too few to take", "pour 0 0 0 5 2 = 3, too few to fill",
        "pour 0 0 0 0 7 = 3, more than the TRAY has",
        "heir 0 0 = 6, no HEIR", "heir 1 3 = 6, no fourth HEIR", "heir 2 1 = 6, no second HEIR",
        "die 0 = 7, it is DEAD", "forgive 0 1 = 7, it is DEAD", "forgive 1 2 = 7, was owed nothing",
        "forge 1 2 5 = 7, the first is not DEAD", "forge 0 3 5 = 7, the second is DEAD",
        "salt 2 1 = 7, SALT is there", "salt 0 0 = 7, SALT is not there", "keep 1 1 = 7, it KEEPS", "keep 0 0 = 7, it does not KEEP",
        "wall 0 1 1 = 7, a DOOR is there", "wall 0 3 0 = 7, no DOOR is there", "move 0 1 = 7, it is DEAD", "move 1 1 = 7, it is there",
        "way 0 2 = 6, into SALT", "way 0 3 = 6, without DOORS", "aim 1 = 6, it lives", "aim 5 = 6, it owes nothing",
        "rest 0 = 6, not in 999", "quiet 3 = 6, not in 99", "harvest 3 1 = 6, not in 999",
        "must 0 2 = 6, into SALT", "must 0 3 = 6, without DOORS", "meets 0 3 = 6, not in 99",
        "ways 0 2 = 6, into SALT", "ways 0 3 = 6, without DOORS",
        "heirs 1 0 = 7, the owed one is DEAD", "loss 0 = 7, it is DEAD",
        "wedding 1 = 6, a DOOR leads from a GHOST's HOUSE into it", "weddingSet 1 = 6, a DOOR leads from a GHOST's HOUSE into it",
        "pardon 3 5 = 6, the DEAD do not FORGIVE", "pardonSet 3 5 = 6, the DEAD do not FORGIVE",
        "pair 0 = 6, none", "pair 2 = 6, none",
        "share 1 0 2 = 7, the owed one is DEAD", "share 0 1 5 = 6, it is no HEIR", "share 0 1 3 = 6, it is DEAD",
        "share 4 1 4 = 6, it is who owes", "share 0 1 1 = 6, no HEIR of itself"};

    /** One who is DEAD and owes nothing, in the one HOUSE, which has SALT. */
    private static final String BARE = "house a salt;person p in a dead;";

    private static final String[] OF_BARE = {
        "crowd = 6, there are no GHOSTS", "busiest 99 = 6, never one", "saint = 6, nobody lives", "keeper = 6, there is none such",
        "pair 0 = 6, none", "gracious = 6, nobody is owed", "deepest = 6, nobody owes", "weight = 6, no SORROW",
        "bestSalt = 6, no HOUSE without SALT", "aim 0 = 6, it is no GHOST", "live 0 = 6, no TALES", "lived 0 = 6, there was none",
        "mean 0 1 = 6, no TALES", "undo = 6, no MARK", "harvest 0 1 = 6, not in 999"};

    private static final String[] OF_LATE = {
        "night 10 = 4, above 9,999", "night 99 = 4, above 9,999", "mark = 4, a fourth MARK"};

    public static void main(String[] args) {
        for (String row : OF_RICH) {
            one(row, RefusedTest::rich);
        }
        for (String row : OF_BARE) {
            one(row, () -> Texts.of(BARE));
        }
        for (String row : OF_LATE) {
            one(row, RefusedTest::late);
        }
        faultOfLand();
        faultOfTales();
        whatIsNotCounted();
        cases.end();
    }

    private static SorryWalk rich() {
        SorryWalk x = Texts.of(RICH, "night 3;any;salt a;");
        x.tray(0, 1, 6);
        x.write(0, 2, 77);
        x.tray(1, 2, 4);
        x.write(1, 3, -5);
        x.tray(2, 0, 0);
        x.mark();
        x.live(11);
        x.weight();
        x.undo();
        x.mark();
        x.keep(0, true);
        x.mark();
        x.keep(0, false);
        Texts.feed(x, "house z;house y;house x;");
        return x;
    }

    private static SorryWalk late() {
        SorryWalk x = Texts.of(RICH, "night 3;");
        x.mark();
        for (int k = 0; k < 100; k++) {
            x.night(99);
        }
        x.mark();
        x.night(90);
        x.mark();
        return x;
    }

    private interface Maker {
        SorryWalk make();
    }

    private static void one(String row, Maker maker) {
        cases.edge(row, check -> {
            String[] call = row.substring(0, row.indexOf(" = ")).split(" ");
            int status = row.charAt(row.indexOf(" = ") + 3) - '0';
            int[] numbers = new int[call.length - 1];
            for (int i = 0; i < numbers.length; i++) {
                numbers[i] = Integer.parseInt(call[i + 1]);
            }
            SorryWalk x = maker.make();
            Object answer = Calls.call(x, call[0], numbers);
            check.due(row + ": refused", Calls.isRefusal(answer), true);
            check.due(row + ": status()", x.status(), status);
            check.due(row + ": changes nothing", Calls.allOf(x).equals(Calls.allOf(maker.make())), true);
        });
    }

    /** What allOf tells, but for the tape and fault(). */
    private static String besideTapeAndFault(SorryWalk x) {
        return Calls.allOf(x).replaceAll("fault -?\\d+ -?\\d+", "").replaceAll("tape \\d+", "");
    }

    private static void faultOfLand() {
        cases.edge("land() with 9: the old one stays, with all that became of it", check -> {
            SorryWalk x = rich();
            check.refused(x, "land", x.land(7), 9);
            check.due("all else stays", besideTapeAndFault(x).equals(besideTapeAndFault(rich())), true);
        });
        cases.edge("land() with 9: the tape is empty then", check -> {
            SorryWalk x = rich();
            x.land(7);
            check.due("feed", x.feed(0, 0, 0, 0, 0), 20);
        });
        cases.edge("land() with 9: fault() tells it", check -> {
            SorryWalk x = rich();
            x.land(7);
            check.due("fault(0)", x.fault(0), 2);
            check.due("fault(1)", x.fault(1), 7);
        });
        cases.edge("land() with 1: tape and fault() stay", check -> {
            SorryWalk x = rich();
            check.refused(x, "land(41)", x.land(41), 1);
            check.refused(x, "land(-1)", x.land(-1), 1);
            check.due("all stays", Calls.allOf(x).equals(Calls.allOf(rich())), true);
        });
    }

    private static void faultOfTales() {
        cases.edge("tales() with 9: the old ones stay", check -> {
            SorryWalk x = rich();
            check.refused(x, "tales", x.tales(7), 9);
            check.due("all else stays", besideTapeAndFault(x).equals(besideTapeAndFault(rich())), true);
        });
        cases.edge("tales() with 9: the tape is empty then", check -> {
            SorryWalk x = rich();
            x.tales(7);
            check.due("feed", x.feed(0, 0, 0, 0, 0), 20);
        });
        cases.edge("tales() with 9: fault() tells it", check -> {
            SorryWalk x = rich();
            x.tales(7);
            check.due("fault(0)", x.fault(0), 2);
            check.due("fault(1)", x.fault(1), 0);
        });
        cases.edge("tales() with 1: tape and fault() stay", check -> {
            SorryWalk x = rich();
            check.refused(x, "tales(41)", x.tales(41), 1);
            check.refused(x, "tales(-1)", x.tales(-1), 1);
            check.due("all stays", Calls.allOf(x).equals(Calls.allOf(rich())), true);
        });
    }

    private static void whatIsNotCounted() {
        cases.edge("status(), top(), bottom(), feed(), fault() have no STATUS, also if they give NONE", check -> {
            SorryWalk x = rich();
            x.heir(0, 0);
            x.top();
            x.bottom();
            x.fault(0);
            x.fault(5);
            for (int k = 0; k < 60; k++) {
                x.feed(1, 2, 3, 4, 5);
            }
            check.due("status()", x.status(), 6);
            check.due("status() again", x.status(), 6);
        });
        cases.edge("a call with STATUS 0 behind one with another", check -> {
            SorryWalk x = rich();
            x.heir(0, 0);
            check.gives(x, "heir(1, 0)", x.heir(1, 0), 4);
        });
    }
}
