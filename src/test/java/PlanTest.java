/** Promises 47 to 66: plans. */
public final class PlanTest {
    private static final Check check = new Check("PlanTest");
    private static final String FIVE = "house a;person p in a;person q in a;person r in a;person s in a;person t in a dead;";

    public static void main(String[] args) {
        promise47Heirs();
        promise48Loss();
        promise49Saint();
        promise50Keeper();
        promise51Lonely();
        promise52Due();
        promise53Net();
        promises54And55Wedding();
        promises54And55WeddingOfSeveralSets();
        promises56And57Pardon();
        promises56And57PardonOfSeveralSets();
        promise58Pair();
        promise59Share();
        promise60Gracious();
        promise61Deepest();
        promise62Weight();
        promise63Mutual();
        promise64Chain();
        promise65Circle();
        promise66BestSalt();
        check.end();
    }

    private static void promise47Heirs() {
        SorryWalk x = Texts.of(FIVE + "owes t p 11;owes r p 1;heir p s;heir p r;heir p t;");
        check.gives(x, "heirs(4, 0)", x.heirs(4, 0), 12);
        check.gives(x, "not who owes", x.heirs(2, 0), 8);
        check.gives(x, "heirs(4, 1)", x.heirs(4, 1), 0);
        check.gives(x, "heirs(1, 0), where nothing is owed", x.heirs(1, 0), 12);
        check.refused(x, "the owed one is DEAD", x.heirs(0, 4), 7);
        check.refused(x, "heirs(0, 0)", x.heirs(0, 0), 1);
        check.refused(x, "heirs(5, 0)", x.heirs(5, 0), 1);
        check.refused(x, "heirs(0, -1)", x.heirs(0, -1), 1);
        check.refused(x, "1 ahead of 7", x.heirs(4, 4), 1);
    }

    private static void promise48Loss() {
        SorryWalk x = Texts.of(FIVE + "owes t p 11;owes s p 8;owes t q 6;owes q r 5;owes t r 90;owes p r 2;heir p s;heir r q;heir r p;");
        check.gives(x, "loss(0): s's own 8", x.loss(0), 8);
        check.gives(x, "loss(1)", x.loss(1), 6);
        check.gives(x, "loss(2)", x.loss(2), 0);
        check.gives(x, "loss(3)", x.loss(3), 0);
        x.forge(4, 0, 84);
        check.gives(x, "owed(4, 0)", x.owed(4, 0), 95);
        check.gives(x, "loss(2): t would owe p 125", x.loss(2), 26);
        check.refused(x, "loss(4)", x.loss(4), 7);
        check.refused(x, "loss(5)", x.loss(5), 1);
        check.refused(x, "loss(-1)", x.loss(-1), 1);
        check.gives(x, "SORROW stays", x.told(5), 95 + 8 + 6 + 5 + 90 + 2);
    }

    private static void promise49Saint() {
        SorryWalk x = Texts.of(FIVE + "owes t p 4;owes s q 7;owes t r 7;");
        check.gives(x, "of several the first", x.saint(), 1);
        x = Texts.of(FIVE + "owes t p 4;owes s q 7;owes t r 7;heir q p;");
        check.gives(x, "saint()", x.saint(), 2);
        check.gives(x, "without debts the first living one", Texts.of("house a;person t in a dead;person p in a;person q in a;").saint(), 1);
        x = Texts.of("house a;person t in a dead;");
        check.refused(x, "saint()", x.saint(), 6);
    }

    private static void promise50Keeper() {
        SorryWalk x = Texts.of("house a;house b;house c;door a b;door b c;person p in a dead;person q in c;person r in b;"
            + "person s in a dead;person t in a keeps;owes p q 2;owes s r 50;");
        check.gives(x, "keeper(): r has 19, q 18", x.keeper(), 2);
        x.move(1, 1);
        check.gives(x, "of several the first", x.keeper(), 1);
        x.keep(1, true);
        check.gives(x, "one that KEEPS already is none", x.keeper(), 2);
        x.keep(2, true);
        check.refused(x, "keeper()", x.keeper(), 6);
        x.keep(4, false);
        check.gives(x, "keeper()", x.keeper(), 4);
        x.die(4);
        check.refused(x, "keeper()", x.keeper(), 6);
        x = Texts.of("house a;house b;door a b;person p in a dead;person q in a;person r in b keeps;owes p q 9;owes p r 1;");
        check.gives(x, "who is the one that does not", x.keeper(), 1);
        x = Texts.of("house a;house b;door a b;person p in a dead;person q in a;person r in b;person s in a;"
            + "owes p q 19;owes p r 3;");
        check.gives(x, "all 20", x.keeper(), 1);
        x = Texts.of("house a;house b;person q in a;person p in a dead;person u in b dead;person r in b;person s in b dead;person t in b dead;"
            + "owes p q 50;owes s u 10;owes t u 10;owes s r 50;owes t r 50;");
        check.gives(x, "20 for q, twice 10 for r", x.keeper(), 0);
        x.forgive(0, 1);
        check.gives(x, "twice 10 for r", x.keeper(), 3);
    }

    private static void promise51Lonely() {
        SorryWalk x = Texts.of(FIVE + "owes t p 4;");
        check.gives(x, "lonely()", x.lonely(), 14);
        x.forgive(0, 4);
        check.gives(x, "lonely()", x.lonely(), 31);
        check.gives(x, "lonely() of none", new SorryWalk().lonely(), 0);
    }

    private static void promise52Due() {
        SorryWalk x = Texts.of("house a;house b;person p in a dead;person q in a;person r in a;person s in b;"
            + "owes s p 8;owes p q 3;owes s q 2;owes q r 4;owes q s 1;");
        check.gives(x, "due(0): not what a DEAD one is owed", x.due(0), 9);
        check.gives(x, "due(1)", x.due(1), 1);
        check.refused(x, "due(2)", x.due(2), 1);
        check.refused(x, "due(-1)", x.due(-1), 1);
        x = Texts.of(FIVE + "owes t p 4;");
        check.gives(x, "what the first is owed", x.due(0), 4);
        x = Texts.of(FIVE);
        check.gives(x, "nothing", x.due(0), 0);
    }

    private static void promise53Net() {
        SorryWalk x = Texts.of(FIVE + "owes t p 4;owes p q 3;owes q t 9;");
        check.gives(x, "net(0)", x.net(0), -1);
        check.gives(x, "net(1)", x.net(1), 6);
        check.gives(x, "net(4)", x.net(4), -5);
        check.gives(x, "net(2)", x.net(2), 0);
        check.refused(x, "net(5)", x.net(5), 1);
        check.refused(x, "net(-1)", x.net(-1), 1);
    }

    private static void wedding(SorryWalk x, int house, int many, int set) {
        check.gives(x, "wedding(" + house + ")", x.wedding(house), many);
        check.gives(x, "weddingSet(" + house + ")", x.weddingSet(house), set);
    }

    private static void promises54And55Wedding() {
        SorryWalk x = Texts.of("house a;house b;house c;house d;house e;house f salt;door a b;door a c;door b d;door c d;door d e;door a f;"
            + "person p in a dead;person q in e;owes p q 1;");
        wedding(x, 3, 2, 6);
        wedding(x, 4, 1, 8);
        wedding(x, 5, 0, 0);
        wedding(x, 0, 0, 0);
        check.refused(x, "a DOOR leads from a GHOST's HOUSE into it", x.wedding(1), 6);
        check.refused(x, "weddingSet(1)", x.weddingSet(1), 6);
        check.refused(x, "wedding(6)", x.wedding(6), 1);
        check.refused(x, "weddingSet(6)", x.weddingSet(6), 1);
        check.refused(x, "wedding(-1)", x.wedding(-1), 1);
        x.salt(2, true);
        wedding(x, 3, 1, 2);
        wedding(x, 2, 0, 0);
        x.salt(1, true);
        wedding(x, 3, 0, 0);
        x.forgive(1, 0);
        x.salt(1, false);
        wedding(x, 1, 0, 0);
        check.due("told(6)", x.told(6), 36);
    }

    private static void promises54And55WeddingOfSeveralSets() {
        SorryWalk x = Texts.of("house e;house d;house c;house b;house a;door a b;door b c;door c d;door d e;"
            + "person p in a dead;person q in e;owes p q 1;");
        wedding(x, 0, 1, 2);
        wedding(x, 1, 1, 4);
        x = Texts.of("house a;house b;house c;house d;house e;door a b;door b c;door c d;door d e;"
            + "person p in a dead;person r in c dead;person q in e;owes p q 1;owes r q 1;");
        wedding(x, 4, 1, 8);
        check.refused(x, "SALT in the GHOST's own HOUSE does not help", x.wedding(3), 6);
        check.refused(x, "wedding(1)", x.wedding(1), 6);
        x = Texts.of("house a;house b;house c;house d;door a b;door b c;door c d;door a d;"
            + "person p in b dead;person r in c dead;person q in d;person s in c;owes p q 1;owes r s 1;");
        check.refused(x, "wedding(3)", x.wedding(3), 6);
        x = Texts.of("house a;house b;house c;house d;house e;door a b;door b c;door c d;door d e;door a d;"
            + "person p in b dead;person q in e;owes p q 1;");
        wedding(x, 4, 1, 8);
        wedding(x, 3, 2, 5);
    }

    private static void pardon(SorryWalk x, int house, int nights, int many, int set) {
        check.gives(x, "pardon(" + house + ", " + nights + ")", x.pardon(house, nights), many);
        check.gives(x, "pardonSet(" + house + ", " + nights + ")", x.pardonSet(house, nights), set);
    }

    private static void promises56And57Pardon() {
        SorryWalk x = Texts.of("house a;house b;house c;door a b;door b c;person p in a dead;person q in c;person r in b;"
            + "person s in a dead;owes p q 9;owes p r 1;owes q r 5;");
        pardon(x, 0, 1, 0, 0);
        pardon(x, 1, 1, 2, 6);
        pardon(x, 2, 5, 1, 2);
        pardon(x, 2, 20, 0, 0);
        check.refused(x, "pardon(0, 0)", x.pardon(0, 0), 1);
        check.refused(x, "pardonSet(0, 0)", x.pardonSet(0, 0), 1);
        check.refused(x, "pardon(0, 21)", x.pardon(0, 21), 1);
        check.refused(x, "pardon(3, 1)", x.pardon(3, 1), 1);
        check.refused(x, "pardonSet(-1, 1)", x.pardonSet(-1, 1), 1);
        check.due("SORROW stays", x.told(5), 15);
        x = Texts.of("house a;person p in a dead;person q in a dead;person r in a;owes p q 9;owes p r 1;");
        check.refused(x, "the DEAD don't FORGIVE", x.pardon(0, 1), 6);
        check.refused(x, "pardonSet(0, 8)", x.pardonSet(0, 8), 6);
        pardon(x, 0, 10, 0, 0);
        pardon(x, 0, 9, 1, 4);
    }

    private static void promises56And57PardonOfSeveralSets() {
        SorryWalk x = Texts.of("house a;house b;person p in a dead;person q in a dead;person r in b;person s in a keeps;"
            + "person t in a keeps;person u in a;owes p s 1;owes q t 1;owes q u 1;owes p u 1;");
        pardon(x, 0, 1, 2, 24);
        pardon(x, 0, 20, 2, 24);
        x = Texts.of("house a;house b;door a b;person p in a dead;person q in b;person r in b;owes p q 9;owes p r 9;");
        check.gives(x, "both", x.pardonSet(1, 1), 6);
        x = Texts.of("house a;house b;house c;door a b;door a c;person p in a dead;person q in b;person r in c;owes p q 9;owes p r 9;");
        pardon(x, 1, 1, 1, 2);
        pardon(x, 2, 1, 0, 0);
        pardon(x, 0, 1, 0, 0);
        x = Texts.of("house a;person q in a;person p in a dead;person r in a;owes p q 1;owes p r 1;");
        pardon(x, 0, 1, 1, 1);
        pardon(x, 0, 2, 0, 0);
        StringBuilder seven = new StringBuilder("house a;person p in a dead;");
        for (char c = 'q'; c <= 'w'; c++) {
            seven.append("person ").append(c).append(" in a keeps;owes p ").append(c).append(" 1;");
        }
        x = Texts.of(seven.toString());
        pardon(x, 0, 1, 7, 254);
        pardon(x, 0, 20, 7, 254);
    }

    private static void promise58Pair() {
        SorryWalk x = Texts.of("house a;person p in a dead;person q in a dead;person r in a dead;person s in a;"
            + "owes p s 50;owes s p 50;owes p q 40;owes q r 2;owes r q 3;owes r p 1;owes p r 4;");
        check.gives(x, "of several the first", x.pair(0), 0);
        check.gives(x, "pair(1)", x.pair(1), 2);
        check.gives(x, "pair(2)", x.pair(2), 5);
        check.refused(x, "pair(3)", x.pair(3), 1);
        check.refused(x, "pair(-1)", x.pair(-1), 1);
        x.die(3);
        check.gives(x, "what s was owed is gone", x.pair(2), 5);
        x = Texts.of("house a;person p in a dead;person q in a dead;person r in a;owes p q 40;owes r q 2;owes q r 3;");
        check.refused(x, "pair(0)", x.pair(0), 6);
        check.refused(x, "pair(2)", x.pair(2), 6);
        check.refused(x, "1 ahead of 6", x.pair(3), 1);
        x = Texts.of("house a;person p in a dead;person q in a dead;person r in a dead;"
            + "owes p q 1;owes q p 1;owes q r 2;owes r q 1;");
        check.gives(x, "the most", x.pair(0), 1);
        check.gives(x, "pair(2)", x.pair(2), 3);
        x = Texts.of("house a;person p in a dead;person q in a dead;person r in a dead;"
            + "owes p q 5;owes q p 1;owes q r 4;owes r q 4;");
        check.gives(x, "together, not one alone", x.pair(0), 1);
        check.gives(x, "pair(1)", x.pair(1), 2);
    }

    private static void promise59Share() {
        SorryWalk x = Texts.of(FIVE + "owes t p 11;owes r p 8;owes t q 98;heir p s;heir p r;heir p q;heir q t;");
        check.gives(x, "share(4, 0, 3)", x.share(4, 0, 3), 5);
        check.gives(x, "share(4, 0, 2)", x.share(4, 0, 2), 3);
        check.gives(x, "share(4, 0, 1)", x.share(4, 0, 1), 3);
        check.gives(x, "share(2, 0, 3)", x.share(2, 0, 3), 6);
        check.gives(x, "share(2, 0, 1)", x.share(2, 0, 1), 2);
        check.refused(x, "is who owes", x.share(2, 0, 2), 6);
        check.gives(x, "of nothing", x.share(1, 0, 3), 0);
        check.refused(x, "is no HEIR", x.share(4, 0, 0), 6);
        check.refused(x, "is DEAD", x.share(0, 1, 4), 6);
        check.refused(x, "the owed one is DEAD", x.share(0, 4, 1), 7);
        check.refused(x, "share(0, 0, 1)", x.share(0, 0, 1), 1);
        check.refused(x, "share(4, 4, 1)", x.share(4, 4, 1), 1);
        check.refused(x, "share(5, 0, 1)", x.share(5, 0, 1), 1);
        check.refused(x, "share(4, -1, 1)", x.share(4, -1, 1), 1);
        check.refused(x, "share(4, 0, 5)", x.share(4, 0, 5), 1);
        check.refused(x, "1 ahead of 7", x.share(0, 4, 5), 1);
        x.die(3);
        check.gives(x, "the first of those who live", x.share(4, 0, 2), 8);
        check.gives(x, "share(2, 0, 1): all, of one", x.share(2, 0, 1), 8);
    }

    private static void promise60Gracious() {
        SorryWalk x = Texts.of(FIVE + "owes t p 4;owes r q 3;owes p q 2;owes p r 5;owes p t 60;");
        check.gives(x, "of several the first", x.gracious(), 1);
        x.forge(4, 0, 2);
        check.gives(x, "gracious()", x.gracious(), 0);
        x = Texts.of(FIVE + "owes p t 60;");
        check.refused(x, "none that lives is owed", x.gracious(), 6);
        x = Texts.of(FIVE);
        check.refused(x, "nobody is owed", x.gracious(), 6);
        x = Texts.of(FIVE + "owes p q 1;owes t p 1;");
        check.gives(x, "one is enough", x.gracious(), 0);
    }

    private static void promise61Deepest() {
        SorryWalk x = Texts.of(FIVE + "owes t p 4;owes r q 3;owes p q 1;owes r p 2;owes q r 5;");
        check.gives(x, "of several the first", x.deepest(), 1);
        x.forge(4, 0, 2);
        check.gives(x, "deepest()", x.deepest(), 4);
        x = Texts.of(FIVE);
        check.refused(x, "nobody owes", x.deepest(), 6);
        x = Texts.of(FIVE + "owes p q 1;owes t p 1;");
        check.gives(x, "one is enough", x.deepest(), 0);
    }

    private static void promise62Weight() {
        SorryWalk x = Texts.of(FIVE + "owes t p 4;owes r q 8;");
        check.yes(x, "weight()", x.weight());
        check.due("top()", x.top(), 1);
        check.due("bottom()", x.bottom(), 3);
        x.forgive(1, 2);
        check.yes(x, "weight()", x.weight());
        check.due("top()", x.top(), 1);
        check.due("bottom()", x.bottom(), 1);
        x.forgive(0, 4);
        check.denied(x, "weight()", x.weight(), 6);
        check.due("top()", x.top(), 1);
    }

    private static void promise63Mutual() {
        SorryWalk x = Texts.of(FIVE + "owes t p 4;owes p t 8;owes p q 1;owes q p 1;owes r q 1;");
        check.gives(x, "mutual()", x.mutual(), 2);
        check.gives(x, "mutual() of none", new SorryWalk().mutual(), 0);
    }

    private static void promise64Chain() {
        SorryWalk x = new SorryWalk();
        check.gives(x, "chain() of none", x.chain(), 0);
        x = Texts.of(FIVE);
        check.gives(x, "chain()", x.chain(), 1);
        x = Texts.of(FIVE + "owes t p 4;owes p q 1;owes q t 1;owes r s 1;owes s p 1;");
        check.gives(x, "r s p q t", x.chain(), 5);
        x.forgive(0, 3);
        check.gives(x, "a ring of three", x.chain(), 3);
        StringBuilder all = new StringBuilder("house a;");
        for (char c = 's'; c <= 'z'; c++) {
            all.append("person ").append(c).append(" in a;");
        }
        for (char c = 's'; c <= 'z'; c++) {
            for (char d = 's'; d <= 'z'; d++) {
                if (c != d) {
                    all.append("owes ").append(c).append(' ').append(d).append(" 1;");
                }
            }
        }
        x = Texts.of(all.toString());
        check.gives(x, "all owe all", x.chain(), 8);
    }

    private static void promise65Circle() {
        SorryWalk x = Texts.of(FIVE + "owes t p 4;owes p q 1;owes q t 1;owes r s 1;owes s p 1;");
        int[] want = {1, 1, 0, 0, 1};
        for (int p = 0; p < 5; p++) {
            check.gives(x, "circle(" + p + ")", x.circle(p), want[p]);
        }
        check.refused(x, "circle(5)", x.circle(5), 1);
        check.refused(x, "circle(-1)", x.circle(-1), 1);
    }

    private static void promise66BestSalt() {
        SorryWalk x = Texts.of("house a salt;house b;house c;house d;door a b;door b c;door b d;"
            + "person p in a dead;person q in c;person r in d;person s in c dead;owes p q 1;owes p r 1;owes s r 1;");
        check.gives(x, "b keeps both off", x.bestSalt(), 1);
        x.move(1, 0);
        check.gives(x, "p's AIM is with it: b and d keep s off", x.bestSalt(), 1);
        x.move(1, 2);
        x.move(2, 2);
        check.gives(x, "b and c keep p off; s's AIM is with it", x.bestSalt(), 1);
        x.salt(1, true);
        check.gives(x, "p is kept off already", x.bestSalt(), 2);
        x.salt(2, true);
        x.salt(3, true);
        check.refused(x, "no HOUSE without SALT", x.bestSalt(), 6);
        x = Texts.of("house a;house b;door a b;person p in a;");
        check.gives(x, "without GHOSTS the first", x.bestSalt(), 0);
        x = Texts.of("house a;house b;house c;door a b;door b c;person p in b dead;person s in b dead;person q in a;person r in c;"
            + "owes p q 1;owes p r 1;owes s r 1;");
        check.gives(x, "not from all of p's AIMS", x.bestSalt(), 2);
    }
}
