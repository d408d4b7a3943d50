import java.io.IOException;
import java.nio.charset.StandardCharsets;
import java.nio.file.Files;
import java.nio.file.Path;
import java.util.Map;
import java.util.TreeMap;
import java.util.regex.Matcher;
import java.util.regex.Pattern;

/**
 * The document from its first promise to its last, one case for each, by its number and name: what it gives, an edge,
 * what it refuses. The answers were found by hand on the map below. A promise of the document without a case fails.
 */
public final class PromisesTest {
    private static final Cases cases = new Cases("PromisesTest");
    private static final Map<Integer, String> told = new TreeMap<>();

    /**
     * <pre>
     *   a - b     a: p (0), DEAD        d (SALT): r (2), DEAF
     *   |   |     b: u (5)              e: s (3), DEAD
     *   e - c - d(SALT)                 c: q (1); t (4), who KEEPS
     * </pre>
     * NIGHT 1: p goes to e, where s says SORRY to it: neither owes the other any more. NIGHT 2: both go to c.
     * From NIGHT 3 on p owes q 1 less each NIGHT (none in NIGHT 9), and s does 1 LABOUR.
     */
    private static final String MAP = "house a;house b;house c;house d salt;house e;"
        + "door a b;door b c;door a e;door e c;door c d;"
        + "person p in a dead;person q in c;person r in d deaf;person s in e dead;person t in c keeps;person u in b;"
        + "owes p q 7;owes p s 2;owes s p 3;owes u q 4;owes s t 1;heir q u;heir q r;heir q t;";

    public static void main(String[] args) throws IOException {
        newObject();
        trays();
        texts();
        whatIsTold();
        whatIsDone();
        housesAndPersonsAreChanged();
        waysAndAims();
        nightsAhead();
        whoIsWhere();
        countsOfHouses();
        deathsAndSums();
        weddingAndPardon();
        whoOwesWhom();
        rowsAndSalt();
        tales();
        marks();
        eachPromiseHasItsCase();
        cases.end();
    }

    private static void promise(int number, String name, Cases.Case one) {
        told.put(number, name);
        cases.edge(number + ": " + name, one);
    }

    private static void eachPromiseHasItsCase() throws IOException {
        Path document = Path.of(System.getProperty("shared", "../shared")).resolve("DOC.md");
        Matcher m = Pattern.compile("(?m)^## Promise (\\d+): (.*)$").matcher(Files.readString(document, StandardCharsets.UTF_8));
        cases.edge("each promise of the document has its case", check -> {
            int many = 0;
            while (m.find()) {
                many++;
                check.due(m.group(), m.group(2).equals(told.get(Integer.parseInt(m.group(1)))), true);
            }
            check.due("promises", many, 71);
            check.due("cases", told.size(), 71);
        });
    }

    private static SorryWalk map() {
        return Texts.of(MAP);
    }

    private static void newObject() {
        promise(1, "A new object", check -> {
            SorryWalk x = new SorryWalk();
            check.due("status()", x.status(), 0);
            check.due("top()", x.top(), 0);
            check.due("bottom()", x.bottom(), 1);
            for (int what = 0; what < 10; what++) {
                check.gives(x, "told(" + what + ")", x.told(what), 0);
            }
            for (int tray = 0; tray < 4; tray++) {
                check.refused(x, "read(" + tray + ", 0)", x.read(tray, 0), 2);
            }
            check.refused(x, "live(0)", x.live(0), 6);
            check.refused(x, "undo()", x.undo(), 6);
            check.due("feed", x.feed(0, 0, 0, 0, 0), 20);
        });
        promise(2, "status", check -> {
            SorryWalk x = map();
            x.person(6, 0);
            check.due("status()", x.status(), 1);
            x.top();
            x.bottom();
            x.feed(0, 0, 0, 0, 0);
            x.fault(0);
            x.status();
            check.due("status() behind calls without one", x.status(), 1);
            x.person(5, 0);
            check.due("status()", x.status(), 0);
        });
        promise(3, "top", check -> {
            SorryWalk x = map();
            x.weight();
            check.due("top()", x.top(), 13);
            x.mean(0, 1);
            check.due("top() behind a refusal", x.top(), 13);
        });
        promise(4, "bottom", check -> {
            SorryWalk x = map();
            x.weight();
            check.due("bottom()", x.bottom(), 17);
            Texts.land(x, "house a;person p in a;person q in a;owes p q 9;");
            x.weight();
            check.due("bottom() of 0 by 9", x.bottom(), 1);
        });
    }

    private static void trays() {
        promise(5, "tray", check -> {
            SorryWalk x = new SorryWalk();
            check.yes(x, "tray(3, 3, 60)", x.tray(3, 3, 60));
            check.gives(x, "read(3, 59)", x.read(3, 59), 0);
            check.refused(x, "read(3, 60)", x.read(3, 60), 3);
            check.denied(x, "tray(4, 0, 1)", x.tray(4, 0, 1), 1);
            check.denied(x, "tray(0, 4, 1)", x.tray(0, 4, 1), 1);
            check.denied(x, "tray(0, 0, 61)", x.tray(0, 0, 61), 1);
            check.refused(x, "read(0, 0)", x.read(0, 0), 2);
        });
        promise(6, "write", check -> {
            SorryWalk x = new SorryWalk();
            x.tray(0, 1, 2);
            check.yes(x, "write(0, 1, 65538)", x.write(0, 1, 65538));
            check.gives(x, "cut to 16 bits", x.read(0, 1), 2);
            check.denied(x, "write(-1, 0, 5)", x.write(-1, 0, 5), 1);
            check.denied(x, "write(1, 0, 5)", x.write(1, 0, 5), 2);
            check.denied(x, "write(0, 2, 5)", x.write(0, 2, 5), 3);
        });
        promise(7, "read", check -> {
            SorryWalk x = new SorryWalk();
            x.tray(2, 3, 1);
            x.write(2, 0, -1);
            check.gives(x, "read(2, 0)", x.read(2, 0), -1);
            check.refused(x, "read(4, 0)", x.read(4, 0), 1);
            check.refused(x, "read(1, 0)", x.read(1, 0), 2);
            check.refused(x, "read(2, 1)", x.read(2, 1), 3);
        });
        promise(8, "pour", check -> {
            SorryWalk x = new SorryWalk();
            x.tray(0, 2, 4);
            x.tray(1, 1, 4);
            for (int k = 0; k < 4; k++) {
                x.write(0, k, 10 + k);
            }
            check.yes(x, "pour(0, 0, 0, 1, 3)", x.pour(0, 0, 0, 1, 3));
            for (int k = 0; k < 4; k++) {
                check.gives(x, "as they were: " + k, x.read(0, k), 10 + Math.max(0, k - 1));
            }
            check.denied(x, "pour(0, -1, 3, 0, 1)", x.pour(0, -1, 3, 0, 1), 1);
            check.denied(x, "pour(0, 9, 3, 0, 1)", x.pour(0, 9, 3, 0, 1), 2);
            check.denied(x, "pour(0, 9, 1, 0, 1)", x.pour(0, 9, 1, 0, 1), 8);
            check.denied(x, "pour(0, 2, 0, 0, 3)", x.pour(0, 2, 0, 0, 3), 3);
        });
    }

    private static void texts() {
        promise(9, "feed", check -> {
            SorryWalk x = new SorryWalk();
            check.due("feed", x.feed(0x686F7573, 0x65207A3B, 0x20202020, 0x20202020, 0x20202020), 20);
            check.gives(x, "house z;", x.land(20), 0);
            check.gives(x, "told(0)", x.told(0), 1);
            for (int k = 1; k <= 45; k++) {
                check.due("feed " + k, x.feed(0, 0, 0, 0, 0), 20 * k);
            }
            check.due("feed beyond 900", x.feed(0, 0, 0, 0, 0), -1);
        });
        promise(10, "land", check -> {
            SorryWalk x = new SorryWalk();
            check.gives(x, "land", Texts.land(x, MAP), 6);
            check.refused(x, "land(1) of an empty tape", x.land(1), 1);
            check.refused(x, "land(-1)", x.land(-1), 1);
            check.refused(x, "land of a FAULT", Texts.land(x, "house h;house"), 9);
            check.gives(x, "the old one stays", x.told(1), 6);
            check.due("the tape is empty", x.feed(0, 0, 0, 0, 0), 20);
        });
        promise(11, "tales", check -> {
            SorryWalk x = map();
            check.gives(x, "tales", Texts.tales(x, "loop 2;when rest p;die q;end;end;night 9;"), 4);
            check.refused(x, "tales of a FAULT", Texts.tales(x, "die a;"), 9);
            check.gives(x, "the old ones stay", x.live(0), 4);
            check.refused(x, "tales(301)", Texts.tales(x, " ".repeat(301)), 1);
        });
        promise(12, "fault", check -> {
            SorryWalk x = new SorryWalk();
            check.due("fault(0) ahead of any", x.fault(0), -1);
            Texts.land(x, "house h; door h h;");
            check.due("fault(0)", x.fault(0), 5);
            check.due("fault(1)", x.fault(1), 16);
            check.due("fault(2)", x.fault(2), -1);
            x.land(1000);
            check.due("fault(0) behind STATUS 1", x.fault(0), 5);
            Texts.land(x, "house h;");
            check.due("fault(0) without one", x.fault(0), 0);
            check.due("fault(1) without one", x.fault(1), -1);
        });
    }

    private static void whatIsTold() {
        promise(13, "told", check -> {
            SorryWalk x = map();
            int[] want = {5, 6, 5, 0, 0, 17, 8, 9, 9, 16};
            for (int what = 0; what < 10; what++) {
                check.gives(x, "told(" + what + ")", x.told(what), want[what]);
            }
            check.refused(x, "told(10)", x.told(10), 1);
            x.night(9);
            int[] then = {5, 6, 5, 9, 15, 5, 8, 9, 8, 16};
            for (int what = 0; what < 10; what++) {
                check.gives(x, "told(" + what + ") in NIGHT 9", x.told(what), then[what]);
            }
        });
        promise(14, "person", check -> {
            SorryWalk x = map();
            x.night(1);
            int[] want = {4, 0, 1, 0, 0, 7, 0};
            for (int what = 0; what < 7; what++) {
                check.gives(x, "person(0, " + what + ")", x.person(0, what), want[what]);
            }
            check.gives(x, "person(2, 3)", x.person(2, 3), 1);
            check.gives(x, "person(4, 4)", x.person(4, 4), 1);
            check.gives(x, "person(1, 6)", x.person(1, 6), 11);
            check.refused(x, "person(6, 0)", x.person(6, 0), 1);
            check.refused(x, "person(0, 7)", x.person(0, 7), 1);
        });
        promise(15, "owed", check -> {
            SorryWalk x = map();
            check.gives(x, "owed(0, 1)", x.owed(0, 1), 7);
            check.gives(x, "owed(1, 0)", x.owed(1, 0), 0);
            check.refused(x, "owed(1, 1)", x.owed(1, 1), 1);
            check.refused(x, "owed(1, 6)", x.owed(1, 6), 1);
        });
        promise(16, "heir", check -> {
            SorryWalk x = map();
            check.gives(x, "heir(1, 0)", x.heir(1, 0), 5);
            check.gives(x, "heir(1, 1)", x.heir(1, 1), 2);
            check.gives(x, "heir(1, 2)", x.heir(1, 2), 4);
            check.refused(x, "heir(1, 3)", x.heir(1, 3), 6);
            check.refused(x, "heir(6, 0)", x.heir(6, 0), 1);
        });
        promise(17, "door", check -> {
            SorryWalk x = map();
            check.gives(x, "door(4, 0)", x.door(4, 0), 1);
            check.gives(x, "door(0, 4)", x.door(0, 4), 1);
            check.gives(x, "door(1, 4)", x.door(1, 4), 0);
            check.refused(x, "door(1, 1)", x.door(1, 1), 1);
            check.refused(x, "door(1, 5)", x.door(1, 5), 1);
        });
        promise(18, "labour", check -> {
            SorryWalk x = map();
            check.gives(x, "labour(2)", x.labour(2), 0);
            x.night(5);
            check.gives(x, "labour(2) in NIGHT 5", x.labour(2), 3);
            check.refused(x, "labour(5)", x.labour(5), 1);
        });
        promise(19, "within", check -> {
            SorryWalk x = map();
            x.night(9);
            check.gives(x, "within(2, 0)", x.within(2, 0), 27);
            check.gives(x, "within(2, 1)", x.within(2, 1), 18);
            check.gives(x, "within(2, 2)", x.within(2, 2), 8);
            check.refused(x, "within(2, 3)", x.within(2, 3), 1);
            check.refused(x, "within(5, 0)", x.within(5, 0), 1);
        });
    }

    private static void whatIsDone() {
        promise(20, "night", check -> {
            SorryWalk x = map();
            check.gives(x, "night(1)", x.night(1), 1);
            check.gives(x, "p went to e", x.person(0, 0), 4);
            check.gives(x, "s stayed there", x.person(3, 0), 4);
            check.gives(x, "one SORRY", x.told(4), 1);
            check.gives(x, "neither owes the other", x.owed(0, 3) + x.owed(3, 0), 0);
            check.refused(x, "night(0)", x.night(0), 1);
            check.refused(x, "night(100)", x.night(100), 1);
            for (int k = 0; k < 100; k++) {
                x.night(99);
            }
            check.refused(x, "night(99) in NIGHT 9,901", x.night(99), 4);
            check.gives(x, "night(98)", x.night(98), 9999);
            check.refused(x, "night(1)", x.night(1), 4);
        });
        promise(21, "die", check -> {
            SorryWalk x = map();
            check.gives(x, "die(1)", x.die(1), 17);
            check.gives(x, "of 7 the first HEIR", x.owed(0, 5), 3);
            check.gives(x, "of 7 the second", x.owed(0, 2), 2);
            check.gives(x, "of 7 the third", x.owed(0, 4), 2);
            check.gives(x, "of 4 the first that does not owe it", x.owed(5, 2), 3);
            check.gives(x, "of 4 the next", x.owed(5, 4), 1);
            check.gives(x, "nobody owes it any more", x.person(1, 6), 0);
            check.refused(x, "die(1)", x.die(1), 7);
            check.refused(x, "die(6)", x.die(6), 1);
        });
        promise(22, "forgive", check -> {
            SorryWalk x = map();
            check.gives(x, "forgive(1, 0)", x.forgive(1, 0), 7);
            check.gives(x, "owed(0, 1)", x.owed(0, 1), 0);
            check.gives(x, "owed(5, 1)", x.owed(5, 1), 4);
            check.refused(x, "forgive(1, 0)", x.forgive(1, 0), 7);
            check.refused(x, "forgive(0, 3)", x.forgive(0, 3), 7);
            check.refused(x, "forgive(1, 1)", x.forgive(1, 1), 1);
        });
        promise(23, "forge", check -> {
            SorryWalk x = map();
            check.gives(x, "forge(0, 1, 5)", x.forge(0, 1, 5), 12);
            check.gives(x, "forge(0, 1, 99)", x.forge(0, 1, 99), 99);
            check.refused(x, "forge(1, 5, 1)", x.forge(1, 5, 1), 7);
            check.refused(x, "forge(0, 3, 1)", x.forge(0, 3, 1), 7);
            check.refused(x, "forge(0, 0, 1)", x.forge(0, 0, 1), 1);
            check.refused(x, "forge(0, 1, 0)", x.forge(0, 1, 0), 1);
            check.refused(x, "forge(0, 1, 100)", x.forge(0, 1, 100), 1);
        });
    }

    private static void housesAndPersonsAreChanged() {
        promise(24, "salt", check -> {
            SorryWalk x = map();
            check.yes(x, "salt(4, true)", x.salt(4, true));
            check.gives(x, "told(6)", x.told(6), 24);
            check.gives(x, "p goes by b now", x.step(0), 1);
            check.denied(x, "salt(4, true)", x.salt(4, true), 7);
            check.yes(x, "salt(3, false)", x.salt(3, false));
            check.denied(x, "salt(3, false)", x.salt(3, false), 7);
            check.denied(x, "salt(5, true)", x.salt(5, true), 1);
        });
        promise(25, "keep", check -> {
            SorryWalk x = map();
            check.yes(x, "keep(1, true)", x.keep(1, true));
            check.yes(x, "keep(4, false)", x.keep(4, false));
            check.gives(x, "told(9)", x.told(9), 2);
            x.night(4);
            check.gives(x, "q keeps p's", x.owed(0, 1), 7);
            check.gives(x, "t hears s's", x.owed(3, 4), 0);
            check.denied(x, "keep(1, true)", x.keep(1, true), 7);
            check.denied(x, "keep(6, true)", x.keep(6, true), 1);
        });
        promise(26, "wall", check -> {
            SorryWalk x = map();
            check.yes(x, "wall(0, 2, true)", x.wall(0, 2, true));
            check.gives(x, "way(0, 2)", x.way(0, 2), 1);
            check.yes(x, "wall(2, 0, false)", x.wall(2, 0, false));
            check.gives(x, "way(0, 2)", x.way(0, 2), 2);
            check.denied(x, "wall(0, 2, false)", x.wall(0, 2, false), 7);
            check.denied(x, "wall(0, 1, true)", x.wall(0, 1, true), 7);
            check.denied(x, "wall(1, 1, true)", x.wall(1, 1, true), 1);
        });
        promise(27, "move", check -> {
            SorryWalk x = map();
            check.yes(x, "move(1, 3)", x.move(1, 3));
            check.gives(x, "where it is", x.person(1, 0), 3);
            check.gives(x, "its HOME", x.person(1, 1), 3);
            check.denied(x, "move(1, 3)", x.move(1, 3), 7);
            check.denied(x, "move(0, 1)", x.move(0, 1), 7);
            check.denied(x, "move(1, 5)", x.move(1, 5), 1);
        });
    }

    private static void waysAndAims() {
        promise(28, "way", check -> {
            SorryWalk x = map();
            check.gives(x, "way(0, 2)", x.way(0, 2), 2);
            check.gives(x, "way(0, 0)", x.way(0, 0), 0);
            check.gives(x, "way(2, 0): out of SALT", x.way(2, 0), 3);
            check.refused(x, "way(0, 3): into SALT", x.way(0, 3), 6);
            check.refused(x, "way(0, 5)", x.way(0, 5), 1);
        });
        promise(29, "aim", check -> {
            SorryWalk x = map();
            check.gives(x, "aim(0): the nearer one", x.aim(0), 3);
            check.gives(x, "aim(3): the first of two", x.aim(3), 0);
            check.refused(x, "aim(5): it lives", x.aim(5), 6);
            x.wall(0, 1, false);
            x.wall(0, 4, false);
            check.refused(x, "aim(0): no WAY", x.aim(0), 6);
            check.refused(x, "aim(6)", x.aim(6), 1);
        });
        promise(30, "step", check -> {
            SorryWalk x = map();
            check.gives(x, "step(0)", x.step(0), 4);
            check.gives(x, "step(3): p has not gone to it yet", x.step(3), 0);
            check.gives(x, "step(1)", x.step(1), 2);
            x.forge(0, 1, 1);
            x.salt(4, true);
            check.gives(x, "step(0) to q", x.step(0), 1);
            check.refused(x, "step(6)", x.step(6), 1);
        });
        promise(38, "must", check -> {
            SorryWalk x = map();
            check.gives(x, "must(0, 2): by b or e", x.must(0, 2), 0);
            check.gives(x, "must(2, 0): out of d by c", x.must(2, 0), 4);
            x.salt(4, true);
            check.gives(x, "must(2, 0): SALT in e", x.must(2, 0), 6);
            check.refused(x, "must(0, 3)", x.must(0, 3), 6);
            check.refused(x, "must(0, 5)", x.must(0, 5), 1);
        });
        promise(39, "reach", check -> {
            SorryWalk x = map();
            check.gives(x, "reach(0)", x.reach(0), 23);
            check.gives(x, "reach(2): its own, too", x.reach(2), 31);
            check.refused(x, "reach(6)", x.reach(6), 1);
        });
        promise(46, "ways", check -> {
            SorryWalk x = map();
            check.gives(x, "ways(0, 2)", x.ways(0, 2), 2);
            check.gives(x, "ways(2, 0)", x.ways(2, 0), 2);
            check.gives(x, "ways(0, 0)", x.ways(0, 0), 1);
            x.wall(0, 2, true);
            check.gives(x, "ways(0, 2): the shortest alone", x.ways(0, 2), 1);
            check.refused(x, "ways(0, 3)", x.ways(0, 3), 6);
            check.refused(x, "ways(0, 5)", x.ways(0, 5), 1);
        });
    }

    private static void nightsAhead() {
        promise(31, "walks", check -> {
            SorryWalk x = map();
            int[] want = {0, 4, 2, 2};
            for (int nights = 0; nights < 4; nights++) {
                check.gives(x, "walks(0, " + nights + ")", x.walks(0, nights), want[nights]);
            }
            check.gives(x, "walks(3, 999)", x.walks(3, 999), 2);
            check.gives(x, "nothing happened", x.told(3) + x.person(0, 0), 0);
            check.refused(x, "walks(0, 1000)", x.walks(0, 1000), 1);
        });
        promise(32, "later", check -> {
            SorryWalk x = map();
            check.gives(x, "later(0, 0)", x.later(0, 0), 9);
            check.gives(x, "later(0, 1)", x.later(0, 1), 7);
            check.gives(x, "later(0, 8)", x.later(0, 8), 1);
            check.gives(x, "later(3, 999)", x.later(3, 999), 1);
            check.refused(x, "later(0, -1)", x.later(0, -1), 1);
        });
        promise(33, "rest", check -> {
            SorryWalk x = map();
            check.gives(x, "rest(0)", x.rest(0), 9);
            check.gives(x, "rest(5): it lives", x.rest(5), 0);
            check.refused(x, "rest(3)", x.rest(3), 6);
            check.refused(x, "rest(6)", x.rest(6), 1);
        });
        promise(34, "quiet", check -> {
            SorryWalk x = map();
            check.gives(x, "quiet(0)", x.quiet(0), 1);
            check.gives(x, "quiet(4)", x.quiet(4), 2);
            check.gives(x, "quiet(2): now", x.quiet(2), 0);
            x.night(2);
            check.refused(x, "quiet(2)", x.quiet(2), 6);
            check.refused(x, "quiet(5)", x.quiet(5), 1);
        });
        promise(35, "harvest", check -> {
            SorryWalk x = map();
            check.gives(x, "harvest(2, 3)", x.harvest(2, 3), 5);
            check.gives(x, "harvest(2, 0)", x.harvest(2, 0), 0);
            check.gives(x, "harvest(2, 997)", x.harvest(2, 997), 999);
            check.refused(x, "harvest(2, 998)", x.harvest(2, 998), 6);
            check.refused(x, "harvest(2, 10000)", x.harvest(2, 10000), 1);
        });
        promise(45, "wells", check -> {
            SorryWalk x = map();
            check.gives(x, "wells(2, 2)", x.wells(2, 2), 0);
            check.gives(x, "wells(2, 5)", x.wells(2, 5), 3);
            check.gives(x, "wells(2, 999)", x.wells(2, 999), 997);
            check.refused(x, "wells(2, 1000)", x.wells(2, 1000), 1);
        });
    }

    private static void whoIsWhere() {
        promise(36, "visitors", check -> {
            SorryWalk x = map();
            check.gives(x, "visitors(4, 0)", x.visitors(4, 0), 8);
            check.gives(x, "visitors(4, 1)", x.visitors(4, 1), 9);
            check.gives(x, "visitors(1, 99)", x.visitors(1, 99), 0);
            check.refused(x, "visitors(4, 100)", x.visitors(4, 100), 1);
        });
        promise(37, "stays", check -> {
            SorryWalk x = map();
            check.gives(x, "stays(0, 0, 5)", x.stays(0, 0, 5), 0);
            check.gives(x, "stays(0, 4, 5)", x.stays(0, 4, 5), 1);
            check.gives(x, "stays(0, 2, 99)", x.stays(0, 2, 99), 98);
            check.refused(x, "stays(0, 2, 100)", x.stays(0, 2, 100), 1);
        });
        promise(40, "tours", check -> {
            SorryWalk x = map();
            check.gives(x, "tours(0, 0)", x.tours(0, 0), 1);
            check.gives(x, "tours(0, 99)", x.tours(0, 99), 3);
            check.gives(x, "tours(1, 99)", x.tours(1, 99), 1);
            check.refused(x, "tours(0, 100)", x.tours(0, 100), 1);
        });
        promise(41, "meets", check -> {
            SorryWalk x = map();
            check.gives(x, "meets(3, 0)", x.meets(3, 0), 1);
            check.gives(x, "meets(0, 1)", x.meets(0, 1), 2);
            check.gives(x, "meets(1, 4)", x.meets(1, 4), 0);
            check.refused(x, "meets(2, 5)", x.meets(2, 5), 6);
            check.refused(x, "meets(2, 2)", x.meets(2, 2), 1);
        });
        promise(42, "crowd", check -> {
            SorryWalk x = map();
            check.gives(x, "crowd(): the first of two", x.crowd(), 0);
            x.night(1);
            check.gives(x, "crowd()", x.crowd(), 4);
            Texts.land(x, "house a;person p in a dead;");
            check.refused(x, "crowd() without GHOSTS", x.crowd(), 6);
        });
        promise(43, "busiest", check -> {
            SorryWalk x = map();
            check.gives(x, "busiest(1)", x.busiest(1), 4);
            check.gives(x, "busiest(2): the first of two", x.busiest(2), 2);
            check.refused(x, "busiest(0)", x.busiest(0), 1);
            check.refused(x, "busiest(100)", x.busiest(100), 1);
            Texts.land(x, "house a;person p in a dead;");
            check.refused(x, "busiest(9) without GHOSTS", x.busiest(9), 6);
        });
    }

    private static void countsOfHouses() {
        promise(44, "exposed", check -> {
            SorryWalk x = map();
            check.gives(x, "exposed()", x.exposed(), 23);
            x.salt(2, true);
            x.salt(4, true);
            check.gives(x, "exposed(): its own, too", x.exposed(), 19);
        });
        promise(51, "lonely", check -> {
            SorryWalk x = map();
            check.gives(x, "lonely()", x.lonely(), 4);
            x.forgive(4, 3);
            check.gives(x, "lonely() with t", x.lonely(), 20);
        });
        promise(52, "due", check -> {
            SorryWalk x = map();
            check.gives(x, "due(2)", x.due(2), 12);
            check.gives(x, "due(0): a DEAD one does not count", x.due(0), 0);
            check.refused(x, "due(5)", x.due(5), 1);
        });
        promise(53, "net", check -> {
            SorryWalk x = map();
            check.gives(x, "net(0)", x.net(0), 6);
            check.gives(x, "net(4)", x.net(4), -1);
            check.refused(x, "net(6)", x.net(6), 1);
        });
    }

    private static void deathsAndSums() {
        promise(47, "heirs", check -> {
            SorryWalk x = map();
            check.gives(x, "heirs(0, 1)", x.heirs(0, 1), 52);
            check.gives(x, "heirs(5, 1): not who owes it", x.heirs(5, 1), 20);
            check.refused(x, "heirs(3, 0)", x.heirs(3, 0), 7);
            check.refused(x, "heirs(1, 1)", x.heirs(1, 1), 1);
        });
        promise(48, "loss", check -> {
            SorryWalk x = map();
            check.gives(x, "loss(1): HEIRS get all", x.loss(1), 0);
            check.gives(x, "loss(4): without HEIRS", x.loss(4), 1);
            check.refused(x, "loss(0)", x.loss(0), 7);
            check.refused(x, "loss(6)", x.loss(6), 1);
        });
        promise(49, "saint", check -> {
            SorryWalk x = map();
            check.gives(x, "saint()", x.saint(), 4);
            x.forgive(4, 3);
            check.gives(x, "saint(): the first of several", x.saint(), 1);
            Texts.land(x, "house a;person p in a dead;");
            check.refused(x, "saint(): nobody lives", x.saint(), 6);
        });
        promise(50, "keeper", check -> {
            SorryWalk x = map();
            check.gives(x, "keeper()", x.keeper(), 1);
            x.keep(1, true);
            check.gives(x, "keeper(): the first of several", x.keeper(), 2);
            x.keep(2, true);
            x.keep(5, true);
            check.refused(x, "keeper(): all KEEP", x.keeper(), 6);
        });
    }

    private static void weddingAndPardon() {
        String row = "house a;house b;house c;house d;door a b;door b c;door c d;person p in a dead;person q in d;owes p q 9;";
        promise(54, "wedding", check -> {
            SorryWalk x = Texts.of(row);
            check.gives(x, "wedding(3)", x.wedding(3), 1);
            check.gives(x, "wedding(0): its own GHOST", x.wedding(0), 0);
            check.refused(x, "wedding(1)", x.wedding(1), 6);
            check.refused(x, "wedding(4)", x.wedding(4), 1);
            x.wall(0, 2, true);
            x.wall(1, 3, true);
            check.gives(x, "wedding(3)", x.wedding(3), 2);
        });
        promise(55, "weddingSet", check -> {
            SorryWalk x = Texts.of(row);
            check.gives(x, "weddingSet(3): b, not c", x.weddingSet(3), 2);
            check.refused(x, "weddingSet(1)", x.weddingSet(1), 6);
            check.refused(x, "weddingSet(4)", x.weddingSet(4), 1);
            x.wall(0, 2, true);
            check.gives(x, "weddingSet(3): c alone", x.weddingSet(3), 4);
        });
        promise(56, "pardon", check -> {
            SorryWalk x = map();
            check.gives(x, "pardon(2, 3)", x.pardon(2, 3), 2);
            check.gives(x, "pardon(2, 1): none is there yet", x.pardon(2, 1), 0);
            check.refused(x, "pardon(2, 0)", x.pardon(2, 0), 1);
            check.refused(x, "pardon(2, 21)", x.pardon(2, 21), 1);
            Texts.land(x, "house a;house b;person p in a dead;person s in b dead;owes p s 5;");
            check.refused(x, "pardon(0, 1): the DEAD do not FORGIVE", x.pardon(0, 1), 6);
        });
        promise(57, "pardonSet", check -> {
            SorryWalk x = map();
            check.gives(x, "pardonSet(2, 3)", x.pardonSet(2, 3), 18);
            check.gives(x, "pardonSet(2, 20): p is at rest", x.pardonSet(2, 20), 16);
            check.refused(x, "pardonSet(5, 1)", x.pardonSet(5, 1), 1);
            Texts.land(x, "house a;house b;person p in a dead;person s in b dead;owes p s 5;");
            check.refused(x, "pardonSet(0, 1)", x.pardonSet(0, 1), 6);
        });
    }

    private static void whoOwesWhom() {
        promise(58, "pair", check -> {
            SorryWalk x = map();
            check.gives(x, "pair(0)", x.pair(0), 0);
            check.gives(x, "pair(1)", x.pair(1), 3);
            check.gives(x, "pair(2)", x.pair(2), 5);
            check.refused(x, "pair(3)", x.pair(3), 1);
            x.night(1);
            check.refused(x, "pair(0)", x.pair(0), 6);
        });
        promise(59, "share", check -> {
            SorryWalk x = map();
            check.gives(x, "share(0, 1, 5)", x.share(0, 1, 5), 3);
            check.gives(x, "share(0, 1, 4)", x.share(0, 1, 4), 2);
            check.gives(x, "share(5, 1, 2)", x.share(5, 1, 2), 3);
            check.refused(x, "share(5, 1, 5): who owes", x.share(5, 1, 5), 6);
            check.refused(x, "share(0, 1, 3): no HEIR", x.share(0, 1, 3), 6);
            check.refused(x, "share(3, 0, 1): DEAD", x.share(3, 0, 1), 7);
            check.refused(x, "share(0, 0, 1)", x.share(0, 0, 1), 1);
        });
        promise(60, "gracious", check -> {
            SorryWalk x = map();
            check.gives(x, "gracious()", x.gracious(), 1);
            x.forgive(1, 0);
            x.forgive(1, 5);
            check.gives(x, "gracious(): not p, who is DEAD", x.gracious(), 4);
            Texts.land(x, "house a;person p in a;");
            check.refused(x, "gracious()", x.gracious(), 6);
        });
        promise(61, "deepest", check -> {
            SorryWalk x = map();
            check.gives(x, "deepest()", x.deepest(), 0);
            x.night(6);
            check.gives(x, "deepest(): a living one", x.deepest(), 5);
            x.forge(3, 4, 3);
            check.gives(x, "deepest(): of several the first", x.deepest(), 3);
            Texts.land(x, "house a;person p in a;");
            check.refused(x, "deepest()", x.deepest(), 6);
        });
        promise(62, "weight", check -> {
            SorryWalk x = map();
            check.yes(x, "weight()", x.weight());
            check.due("13 of 17", x.top() * 100 + x.bottom(), 1317);
            x.night(5);
            check.yes(x, "weight()", x.weight());
            check.due("5 of 9", x.top() * 100 + x.bottom(), 509);
            Texts.land(x, "house a;person p in a;");
            check.denied(x, "weight()", x.weight(), 6);
            check.due("as it was", x.top() * 100 + x.bottom(), 509);
        });
        promise(63, "mutual", check -> {
            SorryWalk x = map();
            check.gives(x, "mutual()", x.mutual(), 1);
            x.night(1);
            check.gives(x, "mutual()", x.mutual(), 0);
        });
    }

    private static void rowsAndSalt() {
        promise(64, "chain", check -> {
            SorryWalk x = map();
            check.gives(x, "chain(): p, s, t", x.chain(), 3);
            x.night(1);
            check.gives(x, "chain()", x.chain(), 2);
            x.land(0);
            check.gives(x, "chain() without PERSONS", x.chain(), 0);
        });
        promise(65, "circle", check -> {
            SorryWalk x = Texts.of("house a;person p in a;person q in a;person r in a;person s in a;"
                + "owes p q 1;owes q r 1;owes r p 1;owes s p 1;");
            check.gives(x, "circle(0)", x.circle(0), 1);
            check.gives(x, "circle(2)", x.circle(2), 1);
            check.gives(x, "circle(3)", x.circle(3), 0);
            check.refused(x, "circle(4)", x.circle(4), 1);
        });
        promise(66, "bestSalt", check -> {
            SorryWalk x = Texts.of("house a;house b;house c;door a b;door b c;person p in a dead;person q in c;owes p q 9;");
            check.gives(x, "bestSalt()", x.bestSalt(), 1);
            x.salt(1, true);
            check.gives(x, "bestSalt(): of several the first", x.bestSalt(), 0);
            x.salt(0, true);
            x.salt(2, true);
            check.refused(x, "bestSalt(): SALT everywhere", x.bestSalt(), 6);
        });
    }

    private static void tales() {
        promise(67, "live", check -> {
            SorryWalk x = Texts.of(MAP, "night 3;die q;die p;any;when at p in c;stop;end;night 1;");
            check.gives(x, "live(0)", x.live(0), 6);
            check.gives(x, "told(3)", x.told(3), 3);
            check.gives(x, "11,171 by 8 by 3: t died", x.told(7), 27);
            check.refused(x, "live(-1)", x.live(-1), 1);
            check.refused(x, "live(10000)", x.live(10000), 1);
            Texts.land(x, MAP);
            check.refused(x, "live(0) without TALES", x.live(0), 6);
        });
        promise(68, "lived", check -> {
            SorryWalk x = Texts.of(MAP, "night 3;die q;die p;any;when at p in c;stop;end;night 1;");
            check.refused(x, "lived(0) ahead of any", x.lived(0), 6);
            x.live(0);
            int[] want = {1, 3, 3, 2, 0};
            for (int what = 0; what < 5; what++) {
                check.gives(x, "lived(" + what + ")", x.lived(what), want[what]);
            }
            check.refused(x, "lived(5)", x.lived(5), 1);
            Texts.tales(x, "loop 99;loop 99;night 1;end;end;");
            check.gives(x, "live(0)", x.live(0), 300);
            check.gives(x, "lived(4)", x.lived(4), 1);
            check.gives(x, "lived(1): 300 but for a loop and three in it", x.lived(1), 296);
        });
        promise(69, "mean", check -> {
            SorryWalk x = Texts.of("house a;person p in a dead;person q in a;person r in a;owes p q 3;", "any;");
            check.yes(x, "mean(0, 2): q dies, then r", x.mean(0, 2));
            check.due("top()", x.top(), 3);
            check.due("bottom()", x.bottom(), 2);
            check.gives(x, "all stays as it is", x.told(7), 1);
            check.refused(x, "none LIVED", x.lived(0), 6);
            check.yes(x, "mean(9980, 20)", x.mean(9980, 20));
            check.denied(x, "mean(9981, 20)", x.mean(9981, 20), 1);
            check.denied(x, "mean(0, 0)", x.mean(0, 0), 1);
            check.denied(x, "mean(0, 21)", x.mean(0, 21), 1);
            x.land(0);
            check.denied(x, "mean(0, 1) without TALES", x.mean(0, 1), 6);
        });
    }

    private static void marks() {
        promise(70, "mark", check -> {
            SorryWalk x = map();
            for (int k = 1; k <= 3; k++) {
                check.gives(x, "mark()", x.mark(), k);
            }
            check.refused(x, "mark()", x.mark(), 4);
            x.undo();
            check.gives(x, "mark()", x.mark(), 3);
        });
        promise(71, "undo", check -> {
            SorryWalk x = Texts.of(MAP, "any;");
            x.mark();
            x.night(5);
            x.mark();
            x.land(0);
            check.gives(x, "undo()", x.undo(), 1);
            check.gives(x, "told(3)", x.told(3), 5);
            check.gives(x, "told(4)", x.told(4), 7);
            check.gives(x, "labour(2)", x.labour(2), 3);
            check.gives(x, "undo()", x.undo(), 0);
            check.gives(x, "told(3)", x.told(3), 0);
            check.gives(x, "person(0, 0)", x.person(0, 0), 0);
            check.gives(x, "TALES, too", x.live(0), 1);
            check.refused(x, "undo()", x.undo(), 6);
        });
    }
}
