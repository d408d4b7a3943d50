/** Promises 9 to 12: the tape, the LAND as a TEXT, the TALES as a TEXT, their FAULTS. */
public final class TextTest {
    private static final Check check = new Check("TextTest");
    private static final String TWO = "house a;house b;person p in a;person q in b;";
    private static final String KEYWORDS = "house salt door person in dead deaf keeps owes heir night die forgive"
        + " sweep forge to any when labour rest at loop end stop";

    public static void main(String[] args) {
        promise9Feed();
        promise10Land();
        promise10LandIsAnew();
        promise10Tokens();
        promise10Parts();
        promise10FaultsOfNames();
        promise10FaultsOfNumbersAndItself();
        promise10FaultsOfMany();
        promise10FirstFaultAlongTheText();
        promise10TextEndsWithin();
        promise11Tales();
        promise11Faults();
        promise11FaultsOfManyAndDeep();
        promise12Fault();
        check.end();
    }

    private static void promise9Feed() {
        SorryWalk x = new SorryWalk();
        for (int k = 1; k <= 45; k++) {
            check.due("feed " + k, x.feed(0x20202020, 0x0A202020, 0x20202020, 0x20202020, 0x20202020), 20 * k);
        }
        check.due("feed 46", x.feed(0x20202020, 0x20202020, 0x20202020, 0x20202020, 0x20202020), -1);
        check.due("status()", x.status(), 0);
        check.gives(x, "land(900)", x.land(900), 0);
        check.due("feed", x.feed(0x68000000 | 0x6F7573, 0x6520613B, 0, 0, 0), 20);
        check.gives(x, "land(8)", x.land(8), 0);
        check.gives(x, "told(0)", x.told(0), 1);
        x.feed(0, 0, 0, 0, 0x000000FF);
        check.refused(x, "land(20)", x.land(20), 9);
        check.due("fault(1)", x.fault(1), 0);
    }

    private static void promise10Land() {
        SorryWalk x = new SorryWalk();
        check.gives(x, "land(0)", x.land(0), 0);
        check.refused(x, "land(-1)", x.land(-1), 1);
        check.refused(x, "land(1)", x.land(1), 1);
        Texts.feed(x, TWO);
        check.refused(x, "land(901)", x.land(901), 1);
        check.refused(x, "land(61)", x.land(61), 1);
        check.gives(x, "land(44)", x.land(TWO.length()), 2);
        check.refused(x, "the tape is empty", x.land(1), 1);
        check.due("feed", x.feed(0, 0, 0, 0, 0), 20);
        check.refused(x, "land(20)", x.land(20), 9);
        check.gives(x, "the old LAND stays", x.told(1), 2);
        check.refused(x, "the tape is empty", x.land(1), 1);
        check.due("feed", x.feed(0, 0, 0, 0, 0), 20);
        check.refused(x, "land(21)", x.land(21), 1);
        check.due("the tape stays with 1", x.feed(0, 0, 0, 0, 0), 40);
        check.gives(x, "land(0)", x.land(0), 0);
        check.gives(x, "told(0)", x.told(0), 0);
        check.gives(x, "told(1)", x.told(1), 0);
    }

    private static void promise10LandIsAnew() {
        SorryWalk x = Texts.of("house a salt;house b;door a b;person p in a dead deaf keeps;person q in a keeps;"
            + "owes p q 5;heir p q;", "night 1;");
        x.night(3);
        check.due("said", x.told(4), 3);
        check.due("labour", x.labour(0), 3);
        Texts.land(x, "house a;house b;house c;person p in b;person q in a;person r in c;");
        int[] want = {3, 3, 0, 0, 0, 0, 0, 0, 0, 0};
        for (int what = 0; what < 10; what++) {
            check.gives(x, "told(" + what + ")", x.told(what), want[what]);
        }
        check.gives(x, "labour(0)", x.labour(0), 0);
        check.gives(x, "owed(0, 1)", x.owed(0, 1), 0);
        check.gives(x, "door(0, 1)", x.door(0, 1), 0);
        check.gives(x, "person(0, 3)", x.person(0, 3), 0);
        check.refused(x, "heir(0, 0)", x.heir(0, 0), 6);
        check.refused(x, "live(0)", x.live(0), 6);
    }

    private static void land(String text, int kind, int place) {
        SorryWalk x = new SorryWalk();
        check.refused(x, "land of " + text, Texts.land(x, text), 9);
        check.due("fault(0) of " + text, x.fault(0), kind);
        check.due("fault(1) of " + text, x.fault(1), place);
    }

    private static void goodLand(String text, int persons) {
        SorryWalk x = new SorryWalk();
        check.gives(x, "land of " + text, Texts.land(x, text), persons);
        check.due("fault(0) of " + text, x.fault(0), 0);
        check.due("fault(1) of " + text, x.fault(1), -1);
    }

    private static void promise10Tokens() {
        goodLand("", 0);
        goodLand(" \n ", 0);
        goodLand("\nhouse\na\n;\n", 0);
        goodLand("house abcdefgh ;", 0);
        goodLand(TWO + "owes p q 0099;", 2);
        goodLand(TWO + "owes p q99;", 2);
        land("house a1;", 2, 7);
        land("house A;", 1, 6);
        land("house a\t;", 1, 7);
        land("house a\r;", 1, 7);
        land("House a;", 1, 0);
        land("house a," , 1, 7);
        land("house " + (char) 225 + ";", 1, 6);
        land("house a" + (char) 0, 1, 7);
        land("house 12345;", 1, 6);
        land("house 1234;", 2, 6);
        land("12345", 1, 0);
        land("1234", 2, 0);
        land(TWO + "owes p q 00001;", 1, 53);
        land(TWO + "owes p q 12345678901234567890;", 1, 53);
        land(";", 2, 0);
        land("<", 2, 0);
        land("=", 2, 0);
        land(">", 2, 0);
        land("&", 1, 0);
        land("housea;", 2, 0);
        land("a", 2, 0);
    }

    private static void promise10Parts() {
        land("house", 2, 5);
        land("house  ", 2, 7);
        land("house a", 2, 7);
        land("house a salt", 2, 12);
        land("house a dead;", 2, 8);
        land("house a salt salt;", 2, 13);
        land("house ;", 2, 6);
        land("house abcdefghi;", 2, 6);
        land("house a;;", 2, 8);
        land("house a;a", 2, 8);
        for (String word : KEYWORDS.split(" ")) {
            land("house " + word + ";", 2, 6);
            land("house a;person " + word, 2, 15);
            if (!"house door person owes heir".contains(word) || word.equals("in")) {
                land(word + " a;", 2, 0);
            }
        }
        land(TWO + "door a b", 2, 52);
        land(TWO + "door a ;", 2, 51);
        land(TWO + "door 1", 2, 49);
        land(TWO + "person r a", 2, 53);
        land(TWO + "person r in", 2, 55);
        land(TWO + "person r in 3", 2, 56);
        land(TWO + "person r in a keeps deaf;", 2, 64);
        land(TWO + "person r in a deaf dead;", 2, 63);
        land(TWO + "person r in a dead dead;", 2, 63);
        land(TWO + "owes p q;", 2, 52);
        land(TWO + "owes p q r;", 2, 53);
        land(TWO + "owes p 5;", 2, 51);
        land(TWO + "owes p q 5", 2, 54);
        land(TWO + "owes p q 5 6;", 2, 55);
        land(TWO + "heir p q", 2, 52);
        land(TWO + "heir p 1", 2, 51);
        goodLand(TWO + "person r in a dead;person s in a deaf;person t in a keeps;person u in a dead keeps;"
            + "person v in a deaf keeps;person w in a dead deaf keeps;", 8);
    }

    private static void promise10FaultsOfNames() {
        land("house a;house a;", 3, 14);
        land(TWO + "house p;", 3, 50);
        land(TWO + "person p in a;", 3, 51);
        land(TWO + "person a in a;", 3, 51);
        land(TWO + "person r in c;", 3, 56);
        land(TWO + "person r in p;", 3, 56);
        land(TWO + "person r in r;", 3, 56);
        land(TWO + "door c a;", 3, 49);
        land(TWO + "door a c;", 3, 51);
        land(TWO + "door p a;", 3, 49);
        land(TWO + "door a p;", 3, 51);
        land(TWO + "owes a p 1;", 3, 49);
        land(TWO + "owes p a 1;", 3, 51);
        land(TWO + "owes r p 1;", 3, 49);
        land(TWO + "heir r p;", 3, 49);
        land(TWO + "heir p b;", 3, 51);
        land("person p in a;house a;", 3, 12);
        land("door a b;house a;house b;", 3, 5);
        land(TWO + "owes p abcdefghi 1;", 2, 51);
        goodLand("house abcdefgh;house abcdefg;house bcdefgh;person abcdefgi in abcdefgh;", 1);
    }

    private static void promise10FaultsOfNumbersAndItself() {
        land(TWO + "owes p q 100;", 4, 53);
        land(TWO + "owes p q 9999;", 4, 53);
        goodLand(TWO + "owes p q 0;owes p q 99;", 2);
        land(TWO + "owes p p 100;", 5, 51);
        land(TWO + "door a a;", 5, 51);
        land(TWO + "heir p p;", 5, 51);
        land(TWO + "heir p q;heir p q;", 5, 60);
        goodLand(TWO + "heir p q;heir q p;door a b;door b a;door a b;", 2);
        SorryWalk x = Texts.of(TWO + "door a b;door b a;owes p q 5;owes p q 3;owes q p 9;owes q p 0;");
        check.gives(x, "told(2)", x.told(2), 1);
        check.gives(x, "owed(0, 1)", x.owed(0, 1), 3);
        check.gives(x, "owed(1, 0)", x.owed(1, 0), 0);
        check.gives(x, "told(5)", x.told(5), 3);
    }

    private static void promise10FaultsOfMany() {
        String seven = "house a;house b;house c;house d;house e;house f;house g;";
        goodLand(seven, 0);
        land(seven + "house h;", 6, 56);
        land(seven + "house", 6, 56);
        land(seven + "house a;", 6, 56);
        StringBuilder eight = new StringBuilder("house a;");
        for (char c = 'h'; c <= 'o'; c++) {
            eight.append("person ").append(c).append(" in a;");
        }
        goodLand(eight.toString(), 8);
        land(eight + "person z in a;", 6, 8 + 8 * 14);
        land(eight + "person person", 6, 8 + 8 * 14);
        String three = eight + "heir h i;heir h j;heir h k;";
        goodLand(three, 8);
        int at = three.length();
        land(three + "heir h l;", 6, at + 7);
        land(three + "heir h k;", 5, at + 7);
        land(three + "heir h h;", 5, at + 7);
        land(three + "heir h z;", 3, at + 7);
        land(three + "heir h 1;", 2, at + 7);
        goodLand(three + "heir i l;heir i k;heir i h;", 8);
    }

    private static void promise10FirstFaultAlongTheText() {
        land("house a;house a;?", 3, 14);
        land("house a ? ;house a;", 1, 8);
        land(TWO + "owes p p 12345", 5, 51);
        land(TWO + "owes p q 100 ?", 4, 53);
        land("house a b ?", 2, 8);
    }

    /** The first n bytes are the text, whatever stands behind them on the tape. */
    private static void promise10TextEndsWithin() {
        within("house abcdefghi;", 14, 2, 14);
        within(TWO + "owes p q 99123;", TWO.length() + 11, 2, TWO.length() + 11);
        within(TWO + "owes p q 99;?", TWO.length() + 12, 0, -1);
        within("house a     ;", 9, 2, 9);
        within("house a;?", 8, 0, -1);
        within("?", 0, 0, -1);
    }

    private static void within(String text, int n, int kind, int place) {
        SorryWalk x = new SorryWalk();
        Texts.feed(x, text);
        x.land(n);
        check.due("status() of " + text, x.status(), kind == 0 ? 0 : 9);
        check.due("fault(0) of " + text, x.fault(0), kind);
        check.due("fault(1) of " + text, x.fault(1), place);
    }

    private static void promise11Tales() {
        SorryWalk x = Texts.of(TWO);
        check.refused(x, "tales(-1)", x.tales(-1), 1);
        check.refused(x, "tales(1)", x.tales(1), 1);
        check.gives(x, "tales(0)", x.tales(0), 0);
        StringBuilder blanks = new StringBuilder();
        for (int i = 0; i < 320; i++) {
            blanks.append(i % 2 == 0 ? ' ' : '\n');
        }
        check.refused(x, "tales(320)", Texts.tales(x, blanks.toString()), 1);
        check.refused(x, "tales(301)", x.tales(301), 1);
        check.gives(x, "tales(300)", x.tales(300), 0);
        check.refused(x, "the tape is empty", x.tales(1), 1);
        check.gives(x, "tales", Texts.tales(x, "night 1;die p;forgive p q;salt a;sweep b;forge p to q 9;any;stop;"), 8);
        check.gives(x, "tales", Texts.tales(x, "when labour a<5;when labour b > 9999 ;end;end;loop 99;when labour a=0;"
            + "any;end;end;when rest p;stop;end;when at p in b;night 9;end;"), 9);
        check.refused(x, "tales", Texts.tales(x, "any"), 9);
        check.refused(x, "the tape is empty", x.tales(1), 1);
        check.gives(x, "the old TALES stay: labour a < 5 ..", x.live(0) > 0 ? 1 : 0, 1);
    }

    private static void tales(String text, int kind, int place) {
        SorryWalk x = Texts.of(TWO);
        check.refused(x, "tales of " + text, Texts.tales(x, text), 9);
        check.due("fault(0) of " + text, x.fault(0), kind);
        check.due("fault(1) of " + text, x.fault(1), place);
        check.refused(x, "live(0)", x.live(0), 6);
    }

    private static void promise11Faults() {
        tales("night 12345;", 1, 6);
        tales("night #;", 1, 6);
        tales("night", 2, 5);
        tales("night p;", 2, 6);
        tales("night 0;", 4, 6);
        tales("night 10;", 4, 6);
        tales("loop 0;", 4, 5);
        tales("loop 100;", 4, 5);
        tales("loop 9;", 2, 7);
        tales("loop 9;end", 2, 10);
        tales("end;", 2, 0);
        tales("any;end;", 2, 4);
        tales("loop 2;end;end;", 2, 11);
        tales("when", 2, 4);
        tales("when any;end;", 2, 5);
        tales("when labour p < 3;end;", 3, 12);
        tales("when labour a 3;end;", 2, 14);
        tales("when labour a ; 3;end;", 2, 14);
        tales("when labour a < b;end;", 2, 16);
        tales("when labour a <= 3;end;", 2, 15);
        tales("when labour a < 10000;end;", 1, 16);
        tales("when rest a;end;", 3, 10);
        tales("when rest r;end;", 3, 10);
        tales("when at a in a;end;", 3, 8);
        tales("when at p in p;end;", 3, 13);
        tales("when at p a;end;", 2, 10);
        tales("die a;", 3, 4);
        tales("die z;", 3, 4);
        tales("die die;", 2, 4);
        tales("die abcdefghi;", 2, 4);
        tales("forgive p a;", 3, 10);
        tales("forgive p;", 2, 9);
        tales("salt p;", 3, 5);
        tales("sweep z;", 3, 6);
        tales("forge p q 3;", 2, 8);
        tales("forge p to q 0;", 4, 13);
        tales("forge p to q 100;", 4, 13);
        tales("forge p to a 100;", 3, 11);
        tales("any any", 2, 4);
        tales("stop 1;", 2, 5);
        tales("house c;", 2, 0);
        tales("p;", 2, 0);
        tales("5;", 2, 0);
        tales(";", 2, 0);
        SorryWalk x = Texts.of(TWO);
        check.gives(x, "no FAULT 5", Texts.tales(x, "forge p to p 99;forgive q q;forge p to q 1;"), 3);
    }

    private static String times(String text, int many) {
        StringBuilder b = new StringBuilder();
        for (int k = 0; k < many; k++) {
            b.append(text);
        }
        return b.toString();
    }

    private static void promise11FaultsOfManyAndDeep() {
        SorryWalk x = Texts.of(TWO);
        check.gives(x, "30 STEPS", Texts.tales(x, times("any;", 30)), 30);
        check.gives(x, "30 STEPS", Texts.tales(x, times("loop 1;", 3) + times("end;", 3) + times("any;", 27)), 30);
        tales(times("any;", 30) + "any;", 6, 120);
        tales(times("any;", 30) + "loop", 6, 120);
        tales(times("any;", 30) + "end;", 2, 120);
        tales(times("any;", 30) + "p;", 2, 120);
        tales(times("loop 1;", 4), 7, 21);
        tales(times("when rest p;", 4), 7, 36);
        tales(times("loop 1;", 2) + "when rest p;loop x", 7, 26);
        tales(times("loop 1;", 3), 2, 21);
        check.gives(x, "three deep", Texts.tales(x, times("loop 1;", 3) + "any;end;loop 1;end;end;end;"), 5);
        tales(times("loop 1;", 3) + times("any;", 27) + "loop 1;", 6, 129);
        check.gives(x, "30 loops", Texts.tales(x, times("loop 1;", 3) + "end;end;end;" + times("any;", 27)), 30);
        check.gives(x, "25 loops", Texts.tales(x, times("loop 1;end;", 25)), 25);
    }

    private static void promise12Fault() {
        SorryWalk x = new SorryWalk();
        check.due("fault(0)", x.fault(0), -1);
        check.due("fault(1)", x.fault(1), -1);
        x.land(5);
        check.due("fault(0) behind STATUS 1", x.fault(0), -1);
        Texts.land(x, "house a;house a;");
        check.due("fault(0)", x.fault(0), 3);
        check.due("fault(1)", x.fault(1), 14);
        check.due("fault(2)", x.fault(2), -1);
        check.due("fault(-1)", x.fault(-1), -1);
        x.land(5);
        check.due("fault(0) behind STATUS 1", x.fault(0), 3);
        Texts.land(x, "house a;person p in a;");
        check.due("fault(0)", x.fault(0), 0);
        check.due("fault(1)", x.fault(1), -1);
        Texts.tales(x, "die q;");
        check.due("fault(0)", x.fault(0), 3);
        check.due("fault(1)", x.fault(1), 4);
        x.tales(301);
        check.due("fault(0) behind STATUS 1", x.fault(0), 3);
        Texts.tales(x, "die p;");
        check.due("fault(0)", x.fault(0), 0);
        check.due("fault(1)", x.fault(1), -1);
    }
}
