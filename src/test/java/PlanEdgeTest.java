/** Promises 47 to 66 and the terms WEDDING, PARDON, PAIR, SHARE, SORROW, DEEPEST: boundary cases. */
public final class PlanEdgeTest {
    private static final Cases cases = new Cases("PlanEdgeTest");
    private static final String FIVE = "house a;person p in a;person q in a;person r in a;person s in a;person t in a dead;";
    private static final String ROW = "house a;house b;house c;house d;house e;house f;house g;"
        + "door a b;door b c;door c d;door d e;door e f;door f g;";

    public static void main(String[] args) {
        heirs();
        loss();
        saint();
        keeper();
        lonelyDueNet();
        wedding();
        weddingOfSeveral();
        pardon();
        pardonOfSeveral();
        pair();
        share();
        gracious();
        deepest();
        weight();
        mutual();
        chain();
        circle();
        bestSalt();
        cases.end();
    }

    private static void heirs() {
        cases.edge("47: no HEIRS: none", check -> {
            SorryWalk x = Texts.of(FIVE + "owes t p 9;");
            check.gives(x, "heirs(4, 0)", x.heirs(4, 0), 0);
        });
        cases.edge("47: all three", check -> {
            SorryWalk x = Texts.of(FIVE + "owes t p 9;heir p s;heir p q;heir p r;");
            check.gives(x, "heirs(4, 0)", x.heirs(4, 0), 14);
        });
        cases.edge("47: a DEAD HEIR is none", check -> {
            SorryWalk x = Texts.of(FIVE + "owes q p 9;heir p t;");
            check.gives(x, "heirs(1, 0)", x.heirs(1, 0), 0);
        });
        cases.edge("47: who owes is none", check -> {
            SorryWalk x = Texts.of(FIVE + "owes q p 9;heir p q;heir p r;");
            check.gives(x, "heirs(1, 0)", x.heirs(1, 0), 4);
        });
        cases.edge("47: 1 is ahead of 7", check -> {
            SorryWalk x = Texts.of(FIVE);
            check.refused(x, "heirs(4, 4)", x.heirs(4, 4), 1);
            check.refused(x, "heirs(5, 4)", x.heirs(5, 4), 1);
            check.refused(x, "heirs(0, 4)", x.heirs(0, 4), 7);
        });
        cases.edge("47: the debtor may be DEAD or living", check -> {
            SorryWalk x = Texts.of(FIVE + "owes t p 9;owes q p 9;heir p r;");
            check.gives(x, "heirs(4, 0)", x.heirs(4, 0), 4);
            check.gives(x, "heirs(1, 0)", x.heirs(1, 0), 4);
        });
    }

    private static void loss() {
        cases.edge("48: 0: nobody owes it", check -> {
            SorryWalk x = Texts.of(FIVE + "owes p q 9;");
            check.gives(x, "loss(0)", x.loss(0), 0);
        });
        cases.edge("48: 0: HEIRS get all", check -> {
            SorryWalk x = Texts.of(FIVE + "owes t p 99;heir p q;");
            check.gives(x, "loss(0)", x.loss(0), 0);
        });
        cases.edge("48: all, without HEIRS", check -> {
            SorryWalk x = Texts.of(FIVE + "owes t p 99;owes q p 99;owes r p 99;owes s p 99;");
            check.gives(x, "loss(0)", x.loss(0), 396);
        });
        cases.edge("48: what it would be above 99", check -> {
            SorryWalk x = Texts.of(FIVE + "owes t p 99;owes t q 99;heir p q;");
            check.gives(x, "loss(0)", x.loss(0), 99);
        });
        cases.edge("48: just to 99 nothing is lost, by 1 more 1", check -> {
            SorryWalk x = Texts.of(FIVE + "owes t p 40;owes t q 59;heir p q;");
            check.gives(x, "loss(0)", x.loss(0), 0);
            x.forge(4, 1, 1);
            check.gives(x, "loss(0)", x.loss(0), 1);
        });
        cases.edge("48: it lives on", check -> {
            SorryWalk x = Texts.of(FIVE + "owes t p 40;");
            x.loss(0);
            check.gives(x, "told(7)", x.told(7), 16);
            check.gives(x, "told(5)", x.told(5), 40);
        });
    }

    private static void saint() {
        cases.edge("49: nothing is owed: the first living one", check -> {
            SorryWalk x = Texts.of("house a;person t in a dead;person p in a;person q in a;");
            check.gives(x, "saint()", x.saint(), 1);
        });
        cases.edge("49: the one that lives", check -> {
            SorryWalk x = Texts.of("house a;person t in a dead;person p in a;owes p t 9;");
            check.gives(x, "saint()", x.saint(), 1);
        });
        cases.edge("49: of several the first", check -> {
            SorryWalk x = Texts.of(FIVE + "owes t s 5;owes t r 5;owes t q 4;");
            check.gives(x, "saint()", x.saint(), 2);
        });
        cases.edge("49: by 1 the last", check -> {
            SorryWalk x = Texts.of(FIVE + "owes t s 6;owes t r 5;owes t q 4;");
            check.gives(x, "saint()", x.saint(), 3);
        });
        cases.edge("49: the first PERSON, though others' deaths lessen it, too", check -> {
            SorryWalk x = Texts.of(FIVE + "owes t p 6;owes t q 5;owes t s 3;");
            check.gives(x, "saint()", x.saint(), 0);
        });
        cases.edge("49: nobody lives, or nobody is there", check -> {
            SorryWalk x = Texts.of("house a;person t in a dead;");
            check.refused(x, "saint()", x.saint(), 6);
            x = new SorryWalk();
            check.refused(x, "saint()", x.saint(), 6);
        });
    }

    private static void keeper() {
        cases.edge("50: no LABOUR at all: the first that does not KEEP", check -> {
            SorryWalk x = Texts.of("house a;person t in a dead;person p in a keeps;person q in a;person r in a;");
            check.gives(x, "keeper()", x.keeper(), 2);
        });
        cases.edge("50: the first PERSON", check -> {
            SorryWalk x = Texts.of(FIVE + "owes t p 9;");
            check.gives(x, "keeper()", x.keeper(), 0);
        });
        cases.edge("50: all KEEP or are DEAD", check -> {
            SorryWalk x = Texts.of("house a;person t in a dead;person p in a keeps;");
            check.refused(x, "keeper()", x.keeper(), 6);
        });
        cases.edge("50: of several the first", check -> {
            SorryWalk x = Texts.of("house a;house b;person p in a dead;person q in a;person s in b dead;person r in b;owes p q 9;owes s r 1;");
            check.gives(x, "both would have 20", x.keeper(), 1);
        });
        cases.edge("50: LABOUR in the 20th NIGHT counts", check -> {
            SorryWalk x = Texts.of("house a;house b;person v in b dead;person u in a dead;person r in b;person q in a;person s in b dead;"
                + "person p in a dead;owes s v 20;owes s r 1;owes p u 19;owes p q 1;");
            check.gives(x, "q would have 1, r none", x.keeper(), 3);
        });
        cases.edge("50: the 21st NIGHT does not", check -> {
            SorryWalk x = Texts.of("house a;person v in a dead;person r in a;person q in a;person s in a dead;owes s v 20;owes s q 1;");
            check.gives(x, "nobody would have any: the first", x.keeper(), 1);
        });
        cases.edge("50: in all HOUSES together, others' KEEPING too", check -> {
            SorryWalk x = Texts.of("house a;house b;door a b;person p in a dead;person q in a;person k in b keeps;person r in b;"
                + "owes p q 5;owes p k 1;owes p r 1;");
            check.gives(x, "q would have 20, k without q 14", x.keeper(), 1);
        });
        cases.edge("50: nobody KEEPS more behind it", check -> {
            SorryWalk x = Texts.of(FIVE + "owes t q 5;");
            check.gives(x, "keeper()", x.keeper(), 1);
            check.gives(x, "told(9)", x.told(9), 0);
            check.gives(x, "labour(0)", x.labour(0), 0);
            check.gives(x, "told(3)", x.told(3), 0);
        });
    }

    private static void lonelyDueNet() {
        cases.edge("51: all eight, and none", check -> {
            StringBuilder b = new StringBuilder("house a;");
            for (char c = 'h'; c <= 'o'; c++) {
                b.append("person ").append(c).append(" in a;");
            }
            SorryWalk x = Texts.of(b.toString());
            check.gives(x, "lonely()", x.lonely(), 255);
            x = Texts.of("house a;person p in a;person q in a;owes p q 1;");
            check.gives(x, "lonely()", x.lonely(), 0);
            check.gives(new SorryWalk(), "of nobody", new SorryWalk().lonely(), 0);
        });
        cases.edge("51: who owes nothing but is owed is none, nor the other", check -> {
            SorryWalk x = Texts.of(FIVE + "owes s t 1;");
            check.gives(x, "lonely()", x.lonely(), 7);
        });
        cases.edge("52: nobody in the HOUSE: 0", check -> {
            SorryWalk x = Texts.of("house a;house b;person p in a;person q in a;owes p q 1;");
            check.gives(x, "due(1)", x.due(1), 0);
        });
        cases.edge("52: what a DEAD one is owed does not count, what the DEAD owe does", check -> {
            SorryWalk x = Texts.of(FIVE + "owes p t 50;owes t p 99;owes t q 98;owes q p 1;");
            check.gives(x, "due(0)", x.due(0), 198);
        });
        cases.edge("52: where they are now", check -> {
            SorryWalk x = Texts.of("house a;house b;person p in a;person q in a;owes p q 3;");
            x.move(1, 1);
            check.gives(x, "due(0)", x.due(0), 0);
            check.gives(x, "due(1)", x.due(1), 3);
        });
        cases.edge("53: -1 with STATUS 0, and NONE", check -> {
            SorryWalk x = Texts.of(FIVE + "owes t p 1;");
            check.gives(x, "net(0)", x.net(0), -1);
            check.gives(x, "net(4)", x.net(4), 1);
            check.refused(x, "net(5)", x.net(5), 1);
        });
        cases.edge("53: 0 of as many", check -> {
            SorryWalk x = Texts.of(FIVE + "owes t p 7;owes p q 7;");
            check.gives(x, "net(0)", x.net(0), 0);
            check.gives(x, "net(1)", x.net(1), -7);
        });
    }

    private static void wedding(Check check, SorryWalk x, int house, int set) {
        check.gives(x, "wedding(" + house + ")", x.wedding(house), Integer.bitCount(set));
        check.gives(x, "weddingSet(" + house + ")", x.weddingSet(house), set);
    }

    private static void noWedding(Check check, SorryWalk x, int house) {
        check.refused(x, "wedding(" + house + ")", x.wedding(house), 6);
        check.refused(x, "weddingSet(" + house + ")", x.weddingSet(house), 6);
    }

    private static void wedding() {
        cases.edge("WEDDING: no GHOST: none is needed", check -> wedding(check, Texts.of(ROW + "person p in a dead;person q in b;"), 1, 0));
        cases.edge("WEDDING: a GHOST in the HOUSE itself is not elsewhere", check -> {
            SorryWalk x = Texts.of(ROW + "person p in a dead;person q in b;owes p q 1;");
            wedding(check, x, 0, 0);
        });
        cases.edge("WEDDING: a GHOST in the HOUSE itself, and another next to it", check -> {
            SorryWalk x = Texts.of(ROW + "person p in a dead;person r in b dead;person q in b;owes p q 1;owes r q 1;");
            noWedding(check, x, 0);
        });
        cases.edge("WEDDING: the HOUSE has SALT: none is needed, also next to a GHOST", check -> {
            SorryWalk x = Texts.of("house a;house b salt;door a b;person p in a dead;person q in b;owes p q 1;");
            wedding(check, x, 1, 0);
        });
        cases.edge("WEDDING: no WAY: none is needed", check -> {
            SorryWalk x = Texts.of("house a;house b;person p in a dead;person q in b;owes p q 1;");
            wedding(check, x, 1, 0);
        });
        cases.edge("WEDDING: 6: a DOOR leads from a GHOST's HOUSE into it", check -> {
            SorryWalk x = Texts.of("house a;house b;door a b;person p in a dead;person q in b;owes p q 1;");
            noWedding(check, x, 1);
        });
        cases.edge("WEDDING: 6: also if the GHOST's HOUSE has SALT", check -> {
            SorryWalk x = Texts.of("house a salt;house b;door a b;person p in a dead;person q in b;owes p q 1;");
            noWedding(check, x, 1);
        });
        cases.edge("WEDDING: a GHOST's HOUSE can get SALT, against another one", check -> {
            SorryWalk x = Texts.of("house a;house b;house c;house d;door a b;door b c;door c d;person p in a dead;person q in d;person r in b dead;"
                + "owes p q 1;owes r q 1;");
            wedding(check, x, 3, 4);
        });
        cases.edge("WEDDING: a GHOST's HOUSE has SALT: it goes out all the same", check -> {
            SorryWalk x = Texts.of("house a salt;house b;house c;door a b;door b c;person p in a dead;person q in c;owes p q 1;");
            wedding(check, x, 2, 2);
        });
        cases.edge("WEDDING: with SALT on the WAY none is needed", check -> {
            SorryWalk x = Texts.of("house a;house b salt;house c;door a b;door b c;person p in a dead;person q in c;owes p q 1;");
            wedding(check, x, 2, 0);
        });
        cases.edge("WEDDING: five, the most there can be", check -> {
            SorryWalk x = Texts.of("house a;house b;house c;house d;house e;house f;house g;door a b;door a c;door a d;door a e;door a f;"
                + "door b g;door c g;door d g;door e g;door f g;person p in a dead;person q in g;owes p q 1;");
            wedding(check, x, 6, 62);
        });
        cases.edge("WEDDING: no SALT is given", check -> {
            SorryWalk x = Texts.of(ROW + "person p in a dead;person q in g;owes p q 1;");
            wedding(check, x, 6, 2);
            check.gives(x, "told(6)", x.told(6), 0);
        });
    }

    private static void weddingOfSeveral() {
        cases.edge("WEDDING: of several the least as a number", check -> {
            SorryWalk x = Texts.of(ROW + "person p in g dead;person q in a;owes p q 1;");
            wedding(check, x, 0, 2);
            wedding(check, x, 3, 16);
        });
        cases.edge("WEDDING: the fewest, though not the least as a number", check -> {
            SorryWalk x = Texts.of("house a;house b;house c;house d;house e;door d a;door d b;door a c;door b c;door c e;person p in d dead;person q in e;owes p q 1;");
            wedding(check, x, 4, 4);
        });
        cases.edge("WEDDING: of two GHOSTS on two sides two", check -> {
            SorryWalk x = Texts.of(ROW + "person p in a dead;person r in g dead;person q in d;owes p q 1;owes r q 1;");
            wedding(check, x, 3, 2 + 16);
        });
    }

    private static void pardon(Check check, SorryWalk x, int house, int nights, int set) {
        check.gives(x, "pardon(" + house + ", " + nights + ")", x.pardon(house, nights), Integer.bitCount(set));
        check.gives(x, "pardonSet(" + house + ", " + nights + ")", x.pardonSet(house, nights), set);
    }

    private static void noPardon(Check check, SorryWalk x, int house, int nights) {
        check.refused(x, "pardon(" + house + ", " + nights + ")", x.pardon(house, nights), 6);
        check.refused(x, "pardonSet(" + house + ", " + nights + ")", x.pardonSet(house, nights), 6);
    }

    private static void pardon() {
        cases.edge("PARDON: none is needed", check -> pardon(check, Texts.of(FIVE), 0, 1, 0));
        cases.edge("PARDON: in just n NIGHTS: at rest in time", check -> {
            SorryWalk x = Texts.of("house a;person p in a dead;person q in a;owes p q 20;");
            pardon(check, x, 0, 20, 0);
            pardon(check, x, 0, 19, 2);
        });
        cases.edge("PARDON: 20 NIGHTS are not enough for 21", check -> {
            SorryWalk x = Texts.of("house a;person p in a dead;person q in a;owes p q 21;");
            pardon(check, x, 0, 20, 2);
        });
        cases.edge("PARDON: in just n NIGHTS: it passes by", check -> {
            SorryWalk x = Texts.of("house a;house b;house c;door a b;door b c;person p in a dead;person q in c;owes p q 1;");
            pardon(check, x, 1, 1, 2);
            pardon(check, x, 1, 2, 0);
            pardon(check, x, 0, 1, 0);
        });
        cases.edge("PARDON: living ones alone", check -> {
            SorryWalk x = Texts.of("house a;person p in a dead;person q in a dead;owes p q 5;");
            noPardon(check, x, 0, 1);
            noPardon(check, x, 0, 4);
            pardon(check, x, 0, 5, 0);
        });
        cases.edge("PARDON: it can't be, though some may FORGIVE", check -> {
            SorryWalk x = Texts.of("house a;person p in a dead;person q in a dead;person r in a;owes p q 5;owes p r 1;");
            noPardon(check, x, 0, 4);
            pardon(check, x, 0, 5, 4);
            pardon(check, x, 0, 6, 0);
        });
        cases.edge("PARDON: nobody lives", check -> {
            SorryWalk x = Texts.of("house a;person p in a dead;person q in a dead;owes p q 99;");
            noPardon(check, x, 0, 20);
        });
        cases.edge("PARDON: nothing is forgiven by it", check -> {
            SorryWalk x = Texts.of("house a;person p in a dead;person q in a;owes p q 20;");
            x.pardon(0, 1);
            check.gives(x, "owed(0, 1)", x.owed(0, 1), 20);
            check.gives(x, "told(3)", x.told(3), 0);
        });
        cases.edge("PARDON: NIGHT 9,999 does not matter", check -> {
            SorryWalk x = Texts.of("house a;person p in a dead;person q in a;");
            for (int k = 0; k < 101; k++) {
                x.night(99);
            }
            x.forge(0, 1, 3);
            pardon(check, x, 0, 3, 0);
            pardon(check, x, 0, 2, 2);
        });
    }

    private static void pardonOfSeveral() {
        cases.edge("PARDON: of several the least as a number", check -> {
            SorryWalk x = Texts.of("house a;person q in a;person p in a dead;person r in a;owes p q 1;owes p r 1;");
            pardon(check, x, 0, 1, 1);
        });
        cases.edge("PARDON: the fewest, though not the least as a number", check -> {
            SorryWalk x = Texts.of("house a;person q in a;person r in a;person s in a;person p in a dead;owes p q 1;owes p r 1;owes p s 2;");
            pardon(check, x, 0, 2, 4);
        });
        cases.edge("PARDON: all seven", check -> {
            StringBuilder b = new StringBuilder("house a;person p in a dead;");
            for (char c = 'q'; c <= 'w'; c++) {
                b.append("person ").append(c).append(" in a keeps;owes p ").append(c).append(" 1;");
            }
            SorryWalk x = Texts.of(b.toString());
            pardon(check, x, 0, 20, 254);
        });
        cases.edge("PARDON: all that is owed them, by all", check -> {
            SorryWalk x = Texts.of("house a;person p in a dead;person r in a dead;person q in a;owes p q 50;owes r q 50;");
            pardon(check, x, 0, 1, 4);
        });
        cases.edge("PARDON: one who FORGIVES sends the GHOST elsewhere", check -> {
            SorryWalk x = Texts.of("house a;house b;door a b;person p in a dead;person q in a;person r in b;owes p q 50;owes p r 50;");
            pardon(check, x, 0, 1, 2);
        });
    }

    private static void pair() {
        cases.edge("58: both above 0", check -> {
            SorryWalk x = Texts.of("house a;person p in a dead;person q in a dead;owes p q 99;");
            check.refused(x, "pair(0)", x.pair(0), 6);
        });
        cases.edge("58: 1 and 1", check -> {
            SorryWalk x = Texts.of("house a;person p in a dead;person q in a dead;owes p q 1;owes q p 1;");
            check.gives(x, "pair(0)", x.pair(0), 0);
            check.gives(x, "pair(1)", x.pair(1), 1);
            check.gives(x, "pair(2)", x.pair(2), 2);
        });
        cases.edge("58: 99 and 99", check -> {
            SorryWalk x = Texts.of("house a;person p in a dead;person q in a dead;owes p q 99;owes q p 99;");
            check.gives(x, "pair(2)", x.pair(2), 198);
        });
        cases.edge("58: a living one is none of two", check -> {
            SorryWalk x = Texts.of("house a;person p in a dead;person q in a;owes p q 9;owes q p 9;");
            check.refused(x, "pair(2)", x.pair(2), 6);
            x.die(1);
            check.refused(x, "nor is what it was owed", x.pair(2), 6);
        });
        cases.edge("58: of several the first, by the first, then by the second", check -> {
            SorryWalk x = Texts.of("house a;person p in a dead;person q in a dead;person r in a dead;person s in a dead;"
                + "owes q r 5;owes r q 5;owes p s 4;owes s p 6;owes p r 9;owes r p 1;");
            check.gives(x, "pair(0)", x.pair(0), 0);
            check.gives(x, "pair(1)", x.pair(1), 2);
            check.gives(x, "pair(2)", x.pair(2), 10);
        });
        cases.edge("58: the last two of eight", check -> {
            StringBuilder b = new StringBuilder("house a;");
            for (char c = 'h'; c <= 'o'; c++) {
                b.append("person ").append(c).append(" in a dead;");
            }
            SorryWalk x = Texts.of(b + "owes o n 1;owes n o 2;");
            check.gives(x, "pair(0)", x.pair(0), 6);
            check.gives(x, "pair(1)", x.pair(1), 7);
            check.gives(x, "pair(2)", x.pair(2), 3);
        });
        cases.edge("58: 1 is ahead of 6", check -> {
            SorryWalk x = new SorryWalk();
            check.refused(x, "pair(3)", x.pair(3), 1);
            check.refused(x, "pair(-1)", x.pair(-1), 1);
        });
    }

    private static void share(String sentence, String land, int debtor, int heir, int want) {
        cases.edge("59: " + sentence, check -> {
            SorryWalk x = Texts.of(FIVE + land);
            check.gives(x, "share", x.share(debtor, 0, heir), want);
        });
    }

    private static void noShare(String sentence, String land, int[] numbers, int status) {
        cases.edge("59: " + sentence, check -> {
            SorryWalk x = Texts.of(FIVE + land);
            check.refused(x, "share", x.share(numbers[0], numbers[1], numbers[2]), status);
        });
    }

    private static void share() {
        share("of 0", "heir p q;", 4, 1, 0);
        share("of 1 the first of three", "owes t p 1;heir p s;heir p q;heir p r;", 4, 3, 1);
        share("of 1 the second of three", "owes t p 1;heir p s;heir p q;heir p r;", 4, 1, 0);
        share("of 99 the third of three", "owes t p 99;heir p s;heir p q;heir p r;", 4, 2, 33);
        share("of 98 the first of three", "owes t p 98;heir p s;heir p q;heir p r;", 4, 3, 34);
        share("of 98 the first of two", "owes t p 98;heir p s;heir p q;", 4, 3, 66);
        share("of 98 the second of two", "owes t p 98;heir p s;heir p q;", 4, 1, 32);
        share("of 99 the one", "owes t p 99;heir p s;", 4, 3, 99);
        share("behind a DEAD one the first", "owes q p 9;heir p t;heir p r;", 1, 2, 9);
        share("behind who owes the first", "owes q p 9;heir p q;heir p r;heir p s;", 1, 2, 6);
        noShare("7: the owed one is DEAD", "owes p t 9;heir t q;", new int[] {0, 4, 1}, 7);
        noShare("6: it is no HEIR", "owes t p 9;heir p q;", new int[] {4, 0, 2}, 6);
        noShare("6: it is DEAD", "owes q p 9;heir p t;", new int[] {1, 0, 4}, 6);
        noShare("6: it is who owes", "owes q p 9;heir p q;", new int[] {1, 0, 1}, 6);
        noShare("6: it is the owed one itself", "owes q p 9;heir p r;", new int[] {1, 0, 0}, 6);
        noShare("7 is ahead of 6", "owes p t 9;", new int[] {0, 4, 1}, 7);
        noShare("1 is ahead of 7", "owes p t 9;", new int[] {0, 4, 5}, 1);
        noShare("1, one and itself, ahead of 7", "owes p t 9;", new int[] {4, 4, 1}, 1);
        noShare("1, one and itself, ahead of 6", "", new int[] {0, 0, 1}, 1);
        cases.edge("SHARE: it is what it gets when the owed one DIES", check -> {
            for (int many = 0; many <= 99; many++) {
                SorryWalk x = Texts.of(FIVE + "owes t p " + many + ";heir p s;heir p q;heir p r;");
                int[] want = {x.share(4, 0, 1), x.share(4, 0, 2), x.share(4, 0, 3)};
                x.die(0);
                for (int k = 0; k < 3; k++) {
                    check.gives(x, "owed", x.owed(4, k + 1), want[k]);
                }
                check.due("together", want[0] + want[1] + want[2], many);
            }
        });
    }

    private static void gracious() {
        cases.edge("60: nobody is owed", check -> {
            SorryWalk x = Texts.of(FIVE);
            check.refused(x, "gracious()", x.gracious(), 6);
            x = new SorryWalk();
            check.refused(x, "of nobody", x.gracious(), 6);
        });
        cases.edge("60: 1 is enough, of the last", check -> {
            SorryWalk x = Texts.of(FIVE + "owes t s 1;");
            check.gives(x, "gracious()", x.gracious(), 3);
        });
        cases.edge("60: of several the first", check -> {
            SorryWalk x = Texts.of(FIVE + "owes t s 5;owes t r 4;owes p r 1;owes t q 4;");
            check.gives(x, "gracious()", x.gracious(), 2);
        });
        cases.edge("60: the first PERSON", check -> {
            SorryWalk x = Texts.of(FIVE + "owes t p 5;owes t s 4;");
            check.gives(x, "gracious()", x.gracious(), 0);
        });
        cases.edge("60: a DEAD one does not FORGIVE", check -> {
            SorryWalk x = Texts.of(FIVE + "owes p t 99;owes t s 1;");
            check.gives(x, "gracious()", x.gracious(), 3);
        });
    }

    private static void deepest() {
        cases.edge("61: nobody owes", check -> {
            SorryWalk x = Texts.of(FIVE + "owes p q 0;");
            check.refused(x, "deepest()", x.deepest(), 6);
            x = new SorryWalk();
            check.refused(x, "of nobody", x.deepest(), 6);
        });
        cases.edge("61: 1 is enough, of the last", check -> check.gives(Texts.of(FIVE + "owes t s 1;"), "deepest()",
            Texts.of(FIVE + "owes t s 1;").deepest(), 4));
        cases.edge("61: the first PERSON", check -> {
            SorryWalk x = Texts.of(FIVE + "owes p t 5;owes t s 4;");
            check.gives(x, "deepest()", x.deepest(), 0);
        });
        cases.edge("61: of several the first, DEAD or living", check -> {
            SorryWalk x = Texts.of(FIVE + "owes t s 5;owes q s 2;owes q p 3;");
            check.gives(x, "deepest()", x.deepest(), 1);
        });
        cases.edge("61: all together, not one alone", check -> {
            SorryWalk x = Texts.of(FIVE + "owes p s 99;owes q s 50;owes q p 50;");
            check.gives(x, "deepest()", x.deepest(), 1);
        });
    }

    private static void weight() {
        cases.edge("62: none: no SORROW; the FRACTION stays", check -> {
            SorryWalk x = Texts.of(FIVE + "owes t p 1;owes p q 2;");
            check.yes(x, "weight()", x.weight());
            x.forgive(0, 4);
            x.forgive(1, 0);
            check.denied(x, "weight()", x.weight(), 6);
            check.due("top()", x.top(), 1);
            check.due("bottom()", x.bottom(), 3);
        });
        cases.edge("62: the DEAD owe nothing of it: 0 by 1", check -> {
            SorryWalk x = Texts.of(FIVE + "owes p q 7;");
            check.yes(x, "weight()", x.weight());
            check.due("top()", x.top(), 0);
            check.due("bottom()", x.bottom(), 1);
        });
        cases.edge("62: the DEAD owe all of it: 1 by 1", check -> {
            SorryWalk x = Texts.of(FIVE + "owes t q 7;");
            check.yes(x, "weight()", x.weight());
            check.due("top()", x.top(), 1);
            check.due("bottom()", x.bottom(), 1);
        });
        cases.edge("62: without a common divisor", check -> {
            SorryWalk x = Texts.of(FIVE + "owes t q 14;owes p q 7;owes p s 14;");
            check.yes(x, "weight()", x.weight());
            check.due("top()", x.top(), 2);
            check.due("bottom()", x.bottom(), 5);
        });
    }

    private static void mutual() {
        cases.edge("63: none, in an empty LAND, too", check -> {
            check.gives(new SorryWalk(), "mutual()", new SorryWalk().mutual(), 0);
            SorryWalk x = Texts.of(FIVE + "owes p q 9;");
            check.gives(x, "mutual()", x.mutual(), 0);
        });
        cases.edge("63: a couple counts once", check -> {
            SorryWalk x = Texts.of(FIVE + "owes p q 1;owes q p 1;");
            check.gives(x, "mutual()", x.mutual(), 1);
        });
        cases.edge("63: all 28 of eight", check -> {
            SorryWalk x = Texts.of(allOwe());
            check.gives(x, "mutual()", x.mutual(), 28);
        });
    }

    /** Eight of whom each owes each. */
    private static String allOwe() {
        StringBuilder b = new StringBuilder("house a;");
        for (char c = 'h'; c <= 'o'; c++) {
            b.append("person ").append(c).append(" in a;");
        }
        for (char c = 'h'; c <= 'o'; c++) {
            for (char d = 'h'; d <= 'o'; d++) {
                b.append(c == d ? "" : "owes " + c + " " + d + " 1;");
            }
        }
        return b.toString();
    }

    private static void chain() {
        cases.edge("64: 0 without PERSONS", check -> check.gives(new SorryWalk(), "chain()", new SorryWalk().chain(), 0));
        cases.edge("64: 1 of one who owes nothing", check -> {
            SorryWalk x = Texts.of("house a;person p in a;");
            check.gives(x, "chain()", x.chain(), 1);
        });
        cases.edge("64: the first PERSON owes the second, or the second the first", check -> {
            SorryWalk x = Texts.of("house a;person p in a;person q in a;owes p q 1;");
            check.gives(x, "chain()", x.chain(), 2);
            x = Texts.of("house a;person p in a;person q in a;owes q p 1;");
            check.gives(x, "chain()", x.chain(), 2);
        });
        cases.edge("64: two who owe each other: none twice", check -> {
            SorryWalk x = Texts.of("house a;person p in a;person q in a;owes p q 1;owes q p 1;");
            check.gives(x, "chain()", x.chain(), 2);
        });
        cases.edge("64: all eight, each owes each", check -> {
            SorryWalk x = Texts.of(allOwe());
            check.gives(x, "chain()", x.chain(), 8);
        });
        cases.edge("64: all eight in one row against the numbers", check -> {
            StringBuilder b = new StringBuilder("house a;");
            for (char c = 'h'; c <= 'o'; c++) {
                b.append("person ").append(c).append(" in a;");
            }
            for (char c = 'i'; c <= 'o'; c++) {
                b.append("owes ").append(c).append(' ').append((char) (c - 1)).append(" 1;");
            }
            SorryWalk x = Texts.of(b.toString());
            check.gives(x, "chain()", x.chain(), 8);
            x.forgive(3, 4);
            check.gives(x, "broken in the middle", x.chain(), 4);
        });
        cases.edge("64: a star has rows of 3", check -> {
            SorryWalk x = Texts.of(FIVE + "owes p t 1;owes q t 1;owes t r 1;owes t s 1;");
            check.gives(x, "chain()", x.chain(), 3);
        });
    }

    private static void circle() {
        cases.edge("65: one who owes nothing, one who is owed alone", check -> {
            SorryWalk x = Texts.of("house a;person p in a;person q in a;owes p q 1;");
            check.gives(x, "circle(0)", x.circle(0), 0);
            check.gives(x, "circle(1)", x.circle(1), 0);
        });
        cases.edge("65: two", check -> {
            SorryWalk x = Texts.of("house a;person p in a;person q in a;owes p q 1;owes q p 1;");
            check.gives(x, "circle(0)", x.circle(0), 1);
            check.gives(x, "circle(1)", x.circle(1), 1);
        });
        cases.edge("65: a ring of eight against the numbers", check -> {
            StringBuilder b = new StringBuilder("house a;");
            for (char c = 'h'; c <= 'o'; c++) {
                b.append("person ").append(c).append(" in a;");
            }
            for (char c = 'i'; c <= 'o'; c++) {
                b.append("owes ").append(c).append(' ').append((char) (c - 1)).append(" 1;");
            }
            SorryWalk x = Texts.of(b + "owes h o 1;");
            for (int p = 0; p < 8; p++) {
                check.gives(x, "circle(" + p + ")", x.circle(p), 1);
            }
            x.forgive(3, 4);
            for (int p = 0; p < 8; p++) {
                check.gives(x, "broken: circle(" + p + ")", x.circle(p), 0);
            }
        });
        cases.edge("65: one who only leads into a ring", check -> {
            SorryWalk x = Texts.of(FIVE + "owes p q 1;owes q r 1;owes r q 1;owes r s 1;");
            int[] want = {0, 1, 1, 0, 0};
            for (int p = 0; p < 5; p++) {
                check.gives(x, "circle(" + p + ")", x.circle(p), want[p]);
            }
        });
    }

    private static void bestSalt() {
        cases.edge("66: no HOUSE", check -> {
            SorryWalk x = new SorryWalk();
            check.refused(x, "bestSalt()", x.bestSalt(), 6);
        });
        cases.edge("66: no HOUSE without SALT", check -> {
            SorryWalk x = Texts.of("house a salt;house b salt;");
            check.refused(x, "bestSalt()", x.bestSalt(), 6);
        });
        cases.edge("66: the one without SALT, though it keeps none", check -> {
            SorryWalk x = Texts.of("house a salt;house b;");
            check.gives(x, "bestSalt()", x.bestSalt(), 1);
        });
        cases.edge("66: of several the first", check -> {
            SorryWalk x = Texts.of(ROW + "person p in a dead;person q in g;owes p q 1;");
            check.gives(x, "b .. g", x.bestSalt(), 1);
        });
        cases.edge("66: its AIM is with it: nothing keeps it", check -> {
            SorryWalk x = Texts.of(ROW + "person p in c dead;person q in c;owes p q 1;");
            check.gives(x, "all are as good", x.bestSalt(), 0);
        });
        cases.edge("66: the AIM is the first PERSON", check -> {
            SorryWalk x = Texts.of("house a;house b;door a b;person q in b;person p in a dead;owes p q 1;");
            check.gives(x, "bestSalt()", x.bestSalt(), 1);
        });
        cases.edge("66: from all their AIMS, not from one", check -> {
            SorryWalk x = Texts.of("house a;house b;house c;door b a;door b c;person p in b dead;person q in a;person r in c;person s in b dead;"
                + "owes p q 1;owes p r 1;owes s r 1;");
            check.gives(x, "c keeps s alone, a nobody", x.bestSalt(), 2);
        });
        cases.edge("66: the most GHOSTS", check -> {
            SorryWalk x = Texts.of(ROW + "person p in a dead;person q in c;person r in b dead;person s in g;owes p q 1;owes r s 1;owes r q 1;");
            check.gives(x, "c keeps both, b one", x.bestSalt(), 2);
        });
        cases.edge("66: no SALT is given", check -> {
            SorryWalk x = Texts.of(ROW + "person p in a dead;person q in c;owes p q 1;");
            x.bestSalt();
            check.gives(x, "told(6)", x.told(6), 0);
            check.gives(x, "way(0, 6)", x.way(0, 6), 6);
        });
    }
}
