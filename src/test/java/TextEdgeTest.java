/** Promises 9 to 12 and the terms LAND, TALES as TEXTS, FAULTS: boundary cases. */
public final class TextEdgeTest {
    private static final Cases cases = new Cases("TextEdgeTest");
    private static final String TWO = "house a;house b;person p in a;person q in b;";
    private static final int BEHIND = TWO.length();
    private static final String[] KEYWORDS = ("house salt door person in dead deaf keeps owes heir night die forgive sweep"
        + " forge to any when labour rest at loop end stop").split(" ");

    public static void main(String[] args) {
        feed();
        landOfSoManyBytes();
        landIsAnew();
        tokens();
        ends();
        names();
        keywords();
        told();
        many();
        theLeastKind();
        talesOfSoManyBytes();
        talesFaults();
        talesMany();
        talesDeep();
        fault();
        cases.end();
    }

    private static String times(String text, int many) {
        StringBuilder b = new StringBuilder();
        for (int k = 0; k < many; k++) {
            b.append(text);
        }
        return b.toString();
    }

    private static void good(String sentence, String text, int persons) {
        cases.edge(sentence, check -> {
            SorryWalk x = new SorryWalk();
            check.gives(x, "land of " + text, Texts.land(x, text), persons);
            check.due("fault(0)", x.fault(0), 0);
            check.due("fault(1)", x.fault(1), -1);
        });
    }

    private static void bad(String sentence, String text, int kind, int place) {
        cases.edge(sentence, check -> {
            SorryWalk x = new SorryWalk();
            check.refused(x, "land of " + text, Texts.land(x, text), 9);
            check.due("fault(0)", x.fault(0), kind);
            check.due("fault(1)", x.fault(1), place);
        });
    }

    private static void goodTales(String sentence, String text, int steps) {
        cases.edge(sentence, check -> {
            SorryWalk x = Texts.of(TWO);
            check.gives(x, "tales of " + text, Texts.tales(x, text), steps);
            check.due("fault(0)", x.fault(0), 0);
            check.due("fault(1)", x.fault(1), -1);
        });
    }

    private static void badTales(String sentence, String text, int kind, int place) {
        cases.edge(sentence, check -> {
            SorryWalk x = Texts.of(TWO);
            check.refused(x, "tales of " + text, Texts.tales(x, text), 9);
            check.due("fault(0)", x.fault(0), kind);
            check.due("fault(1)", x.fault(1), place);
        });
    }

    private static void feed() {
        cases.edge("9: the highest byte of each int first", check -> {
            SorryWalk x = new SorryWalk();
            x.feed(0x686F7573, 0x6520613B, 0x686F7573, 0x6520623B, 0x20200A20);
            check.gives(x, "house a;house b;", x.land(20), 0);
            check.gives(x, "told(0)", x.told(0), 2);
        });
        cases.edge("9: a byte above 127 is one, and no TOKEN", check -> {
            SorryWalk x = new SorryWalk();
            x.feed(0x202020FF, 0, 0, 0, 0);
            check.refused(x, "land(4)", x.land(4), 9);
            check.due("fault(0)", x.fault(0), 1);
            check.due("fault(1)", x.fault(1), 3);
        });
        cases.edge("9: an int below 0", check -> {
            SorryWalk x = new SorryWalk();
            check.due("feed", x.feed(-1, Integer.MIN_VALUE, -1, -1, -1), 20);
            check.refused(x, "land(20)", x.land(20), 9);
            check.due("fault(1)", x.fault(1), 0);
        });
        cases.edge("9: just 900 bytes", check -> {
            SorryWalk x = new SorryWalk();
            for (int k = 1; k <= 45; k++) {
                check.due("feed " + k, x.feed(0, 0, 0, 0, 0), 20 * k);
            }
        });
        cases.edge("9: NONE if there would be more than 900, and the tape stays", check -> {
            SorryWalk x = new SorryWalk();
            Texts.feed(x, times(" ", 900));
            check.due("feed", x.feed(-1, -1, -1, -1, -1), -1);
            check.due("feed", x.feed(-1, -1, -1, -1, -1), -1);
            check.gives(x, "land(900)", x.land(900), 0);
            check.due("the tape is empty then", x.feed(0, 0, 0, 0, 0), 20);
        });
    }

    private static void landOfSoManyBytes() {
        good("10: a LAND of 0 bytes", "", 0);
        good("10: a LAND of blanks alone", " \n \n", 0);
        cases.edge("10: n just as many as the tape has", check -> {
            SorryWalk x = new SorryWalk();
            Texts.feed(x, "house a;            ");
            check.gives(x, "land(20)", x.land(20), 0);
            check.gives(x, "told(0)", x.told(0), 1);
        });
        cases.edge("10: n one more than the tape has", check -> {
            SorryWalk x = new SorryWalk();
            Texts.feed(x, "house a;            ");
            check.refused(x, "land(21)", x.land(21), 1);
            check.due("the tape stays", x.feed(0, 0, 0, 0, 0), 40);
        });
        cases.edge("10: n one more than a full tape has", check -> {
            SorryWalk x = new SorryWalk();
            Texts.feed(x, times(" ", 900));
            check.refused(x, "land(901)", x.land(901), 1);
            check.refused(x, "land(max)", x.land(Integer.MAX_VALUE), 1);
            check.gives(x, "land(900)", x.land(900), 0);
        });
        cases.edge("10: n below 0", check -> {
            SorryWalk x = new SorryWalk();
            Texts.feed(x, "house a;");
            check.refused(x, "land(-1)", x.land(-1), 1);
            check.refused(x, "land(min)", x.land(Integer.MIN_VALUE), 1);
            check.due("the tape stays", x.feed(0, 0, 0, 0, 0), 40);
        });
        cases.edge("10: the first n bytes; the others are gone, too", check -> {
            SorryWalk x = new SorryWalk();
            Texts.feed(x, "house a;house a;????????????????????????");
            check.gives(x, "land(8)", x.land(8), 0);
            check.refused(x, "land(1)", x.land(1), 1);
            check.due("the tape is empty then", x.feed(0, 0, 0, 0, 0), 20);
        });
        cases.edge("10: n = 0 with bytes on the tape: an empty LAND", check -> {
            SorryWalk x = Texts.of(TWO);
            Texts.feed(x, "????");
            check.gives(x, "land(0)", x.land(0), 0);
            check.gives(x, "told(0): it is an empty LAND", x.told(0), 0);
            check.due("the tape is empty then", x.feed(0, 0, 0, 0, 0), 20);
        });
        cases.edge("10: a LAND of 900 bytes, read to its last", check -> {
            SorryWalk x = new SorryWalk();
            String text = TWO + times(" ", 900 - BEHIND - 11) + "owes p q 7;";
            check.gives(x, "land(900)", Texts.land(x, text), 2);
            check.gives(x, "owed(0, 1)", x.owed(0, 1), 7);
        });
        bad("10: a FAULT at the last of 900 bytes", TWO + times("\n", 899 - BEHIND) + "?", 1, 899);
        bad("10: the end of 900 bytes", TWO + times(" ", 895 - BEHIND) + "house", 2, 900);
        cases.edge("10: a TOKEN is cut where the text ends", check -> {
            SorryWalk x = new SorryWalk();
            Texts.feed(x, TWO + "owes p q 99999;");
            check.refused(x, "land", x.land(BEHIND + 11), 9);
            check.due("a NUMBER of 2 digits, then the end", x.fault(0), 2);
            check.due("fault(1)", x.fault(1), BEHIND + 11);
        });
    }

    private static void landIsAnew() {
        String used = "house a salt;house b;door a b;person p in a dead keeps;person q in a deaf keeps;person r in b dead;"
            + "owes p q 5;owes r p 2;heir p q;heir q r;";
        cases.edge("LAND: nobody did LABOUR, no SORRY was said, NIGHT 0", check -> {
            SorryWalk x = Texts.of(used);
            x.night(9);
            Texts.land(x, used);
            check.gives(x, "labour(0)", x.labour(0), 0);
            check.gives(x, "told(4)", x.told(4), 0);
            check.gives(x, "told(3)", x.told(3), 0);
        });
        cases.edge("LAND: there are no TALES", check -> {
            SorryWalk x = Texts.of(used, "any;");
            Texts.land(x, used);
            check.refused(x, "live(0)", x.live(0), 6);
        });
        cases.edge("LAND: nothing is left of that ahead", check -> {
            SorryWalk x = Texts.of(used, "any;");
            x.night(9);
            Texts.land(x, "house a;house b;person p in b;person q in b;person r in b;");
            SorryWalk y = Texts.of("house a;house b;person p in b;person q in b;person r in b;");
            check.due("all is as in a new object", Calls.allOf(x).equals(Calls.allOf(y)), true);
        });
        cases.edge("LAND: an empty one in place of that ahead", check -> {
            SorryWalk x = Texts.of(used, "any;");
            x.night(9);
            x.land(0);
            SorryWalk y = new SorryWalk();
            y.land(0);
            check.due("all is as in a new object", Calls.allOf(x).equals(Calls.allOf(y)), true);
        });
        cases.edge("LAND: NAMES of that ahead are free", check -> {
            SorryWalk x = Texts.of(used);
            check.gives(x, "land", Texts.land(x, "house p;house q;person a in p;"), 1);
        });
        cases.edge("LAND: what is numbered is as it stands", check -> {
            SorryWalk x = Texts.of("house a;person p in a;house b salt;person q in b dead;");
            check.gives(x, "told(6)", x.told(6), 2);
            check.gives(x, "told(7)", x.told(7), 2);
        });
    }

    private static void tokens() {
        good("TOKENS: as long as they go, blanks or not", "house a;house b;door\na\nb;person p in a;person q in b;owes p q99;", 2);
        good("NUMBERS: 1 digit", TWO + "owes p q 9;", 2);
        good("NUMBERS: 4 digits", TWO + "owes p q 0099;", 2);
        bad("NUMBERS: 5 digits: 1 at its first", TWO + "owes p q 00099;", 1, BEHIND + 9);
        bad("NUMBERS: 20 digits: 1 at its first", TWO + "owes p q 00000000000000000001;", 1, BEHIND + 9);
        bad("NUMBERS: 5 digits where none can stand: 1 all the same", "house 12345", 1, 6);
        bad("NUMBERS: 4 digits where none can stand", "house 1234", 2, 6);
        bad("NUMBERS: no sign ahead", TWO + "owes p q -1;", 1, BEHIND + 9);
        for (int c : new int[] {0, 9, 11, 13, 31, 33, 47, 58, 63, 64, 65, 90, 91, 95, 96, 123, 127, 128, 255}) {
            bad("1: no TOKEN begins with byte " + c, "house a;" + (char) c, 1, 8);
            bad("1: no TOKEN begins with byte " + c + ", within a WORD", "hou" + (char) c + "se a;", 2, 0);
        }
        for (String sign : new String[] {";", "<", ">", "="}) {
            bad("SIGN " + sign + " is a TOKEN, but can't stand there", "house a;" + sign, 2, 8);
        }
        good("blanks: 10 and 32 alone, at both ends, too", "\n house \n a \n ; \n", 0);
    }

    private static void ends() {
        bad("2: the end behind house", "house", 2, 5);
        bad("2: the end is the text's length, blanks and all", "house \n ", 2, 8);
        bad("2: the end behind a NAME", "house a", 2, 7);
        bad("2: the end behind salt", "house a salt", 2, 12);
        bad("2: the end behind door", "door", 2, 4);
        bad("2: the end behind one HOUSE of a DOOR", TWO + "door a", 2, BEHIND + 6);
        bad("2: the end behind two HOUSES of a DOOR", TWO + "door a b", 2, BEHIND + 8);
        bad("2: the end behind person", TWO + "person", 2, BEHIND + 6);
        bad("2: the end behind a PERSON's NAME", TWO + "person r", 2, BEHIND + 8);
        bad("2: the end behind in", TWO + "person r in", 2, BEHIND + 11);
        bad("2: the end behind a PERSON's HOUSE", TWO + "person r in a", 2, BEHIND + 13);
        bad("2: the end behind dead deaf keeps", TWO + "person r in a dead deaf keeps", 2, BEHIND + 29);
        bad("2: the end behind owes", TWO + "owes", 2, BEHIND + 4);
        bad("2: the end ahead of a NUMBER", TWO + "owes p q", 2, BEHIND + 8);
        bad("2: the end behind a NUMBER", TWO + "owes p q 9", 2, BEHIND + 10);
        bad("2: the end behind heir", TWO + "heir", 2, BEHIND + 4);
        bad("2: the end behind two PERSONS", TWO + "heir p q", 2, BEHIND + 8);
        bad("2: salt twice", "house a salt salt;", 2, 13);
        bad("2: dead twice", "house a;person p in a dead dead;", 2, 27);
        bad("2: dead behind deaf", "house a;person p in a deaf dead;", 2, 27);
        bad("2: deaf behind keeps", "house a;person p in a keeps deaf;", 2, 28);
        bad("2: dead behind keeps", "house a;person p in a keeps dead;", 2, 28);
        bad("2: a second ;", "house a;;", 2, 8);
    }

    private static void names() {
        good("NAME: 1 letter", "house a;", 0);
        good("NAME: 8 letters", "house abcdefgh;person hgfedcba in abcdefgh;", 1);
        bad("NAME: 9 letters for a new HOUSE", "house abcdefghi;", 2, 6);
        bad("NAME: 9 letters for a new PERSON", "house a;person abcdefghi in a;", 2, 15);
        bad("NAME: 9 letters for the HOUSE of a PERSON", "house a;person p in abcdefghi;", 2, 20);
        bad("NAME: 9 letters for a DOOR", TWO + "door abcdefghi a;", 2, BEHIND + 5);
        bad("NAME: 9 letters for the other HOUSE of a DOOR", TWO + "door a abcdefghi;", 2, BEHIND + 7);
        bad("NAME: 9 letters for who owes", TWO + "owes abcdefghi p 1;", 2, BEHIND + 5);
        bad("NAME: 9 letters for an HEIR", TWO + "heir p abcdefghi;", 2, BEHIND + 7);
        bad("NAME: 900 letters", times("z", 900), 2, 0);
        bad("NAME: 13 letters, more than go into a long", "house abcdefghijklm;", 2, 6);
        good("NAME: two that differ in the eighth letter alone", "house aaaaaaaa;house aaaaaaab;", 0);
        good("NAME: one is the other's beginning", "house aaaaaaa;house aaaaaaaa;house a;house aa;", 0);
        good("NAME: one with a keyword's beginning", "house houses;house sal;house salty;person inn in sal;", 1);
        bad("NAME: a keyword with one letter more is a NAME, and can't stand there", "houses a;", 2, 0);
        bad("3: a new HOUSE's NAME is taken by a HOUSE", "house a;house a;", 3, 14);
        bad("3: a new HOUSE's NAME is taken by a PERSON", TWO + "house p;", 3, BEHIND + 6);
        bad("3: a new PERSON's NAME is taken by a HOUSE", TWO + "person b in a;", 3, BEHIND + 7);
        bad("3: a new PERSON's NAME is taken by a PERSON", TWO + "person q in a;", 3, BEHIND + 7);
        bad("3: a PERSON in a HOUSE that is not told", TWO + "person r in c;", 3, BEHIND + 12);
        bad("3: a PERSON in a PERSON", TWO + "person r in p;", 3, BEHIND + 12);
        bad("3: a PERSON in itself", TWO + "person r in r;", 3, BEHIND + 12);
        bad("3: a PERSON in a HOUSE told behind", "person p in a;house a;", 3, 12);
        bad("3: a DOOR of a HOUSE told behind", "house a;door a b;house b;", 3, 15);
        bad("3: a DOOR of a PERSON", TWO + "door p a;", 3, BEHIND + 5);
        bad("3: a DOOR to a PERSON", TWO + "door a p;", 3, BEHIND + 7);
        bad("3: a HOUSE owes", TWO + "owes a p 1;", 3, BEHIND + 5);
        bad("3: a HOUSE is owed", TWO + "owes p a 1;", 3, BEHIND + 7);
        bad("3: one is owed who is told behind", TWO + "owes p r 1;person r in a;", 3, BEHIND + 7);
        bad("3: an HEIR of a HOUSE", TWO + "heir a p;", 3, BEHIND + 5);
        bad("3: a HOUSE is HEIR", TWO + "heir p a;", 3, BEHIND + 7);
    }

    private static void keywords() {
        for (String word : KEYWORDS) {
            bad("NAME: none of a HOUSE is " + word, "house " + word + ";", 2, 6);
            bad("NAME: none of a PERSON is " + word, "house a;person " + word + " in a;", 2, 15);
            bad("NAME: none of a HOUSE told ahead is " + word, "house a;person p in " + word + ";", 2, 20);
            bad("NAME: none of a PERSON told ahead is " + word, TWO + "owes p " + word + " 1;", 2, BEHIND + 7);
            badTales("NAME: none of a PERSON in TALES is " + word, "die " + word + ";", 2, 4);
        }
    }

    private static void told() {
        good("4: 0 SORRIES", TWO + "owes p q 0;", 2);
        good("4: 99 SORRIES", TWO + "owes p q 99;", 2);
        bad("4: 100 SORRIES", TWO + "owes p q 100;", 4, BEHIND + 9);
        bad("4: 9999 SORRIES", TWO + "owes p q 9999;", 4, BEHIND + 9);
        bad("5: a HOUSE and itself", TWO + "door a a;", 5, BEHIND + 7);
        bad("5: a PERSON owes itself", TWO + "owes p p 1;", 5, BEHIND + 7);
        bad("5: a PERSON is its own HEIR", TWO + "heir q q;", 5, BEHIND + 7);
        bad("5: an HEIR told already", TWO + "heir p q;heir p q;", 5, BEHIND + 16);
        good("5: an HEIR of another one, told already of this", TWO + "person r in a;heir p r;heir q r;heir p q;", 3);
        cases.edge("DOORS: told again: nothing more", check -> {
            SorryWalk x = Texts.of(TWO + "door a b;door a b;door b a;");
            check.gives(x, "told(2)", x.told(2), 1);
            check.gives(x, "door(0, 1)", x.door(0, 1), 1);
        });
        cases.edge("OWES: told again: the latest", check -> {
            SorryWalk x = Texts.of(TWO + "owes p q 99;owes p q 1;");
            check.gives(x, "owed(0, 1)", x.owed(0, 1), 1);
            check.gives(x, "person(0, 5)", x.person(0, 5), 1);
            check.gives(x, "told(5)", x.told(5), 1);
        });
        cases.edge("OWES: told again as 0: nothing is owed", check -> {
            SorryWalk x = Texts.of(TWO + "owes p q 99;owes p q 0;");
            check.gives(x, "owed(0, 1)", x.owed(0, 1), 0);
            check.gives(x, "told(5)", x.told(5), 0);
        });
        cases.edge("OWES: the other way is another debt", check -> {
            SorryWalk x = Texts.of(TWO + "owes p q 99;owes q p 98;");
            check.gives(x, "owed(0, 1)", x.owed(0, 1), 99);
            check.gives(x, "owed(1, 0)", x.owed(1, 0), 98);
        });
        cases.edge("HEIRS: in this order", check -> {
            SorryWalk x = Texts.of(TWO + "person r in a;person s in a;heir p s;heir p q;heir p r;");
            check.gives(x, "heir(0, 0)", x.heir(0, 0), 3);
            check.gives(x, "heir(0, 1)", x.heir(0, 1), 1);
            check.gives(x, "heir(0, 2)", x.heir(0, 2), 2);
        });
    }

    private static String persons(int many) {
        StringBuilder b = new StringBuilder("house a;");
        for (int k = 0; k < many; k++) {
            b.append("person ").append((char) ('h' + k)).append(" in a;");
        }
        return b.toString();
    }

    private static void many() {
        String seven = "house a;house b;house c;house d;house e;house f;house g;";
        good("6: 7 HOUSES", seven, 0);
        bad("6: an eighth house, at that WORD", seven + "house h;", 6, 56);
        bad("6: an eighth house, whatever follows", seven + "house a?", 6, 56);
        bad("6: an eighth house, at the text's end", seven + "house", 6, 56);
        good("6: 8 PERSONS", persons(8), 8);
        bad("6: a ninth person, at that WORD", persons(8) + "person z in a;", 6, persons(8).length());
        bad("6: a ninth person, whatever follows", persons(8) + "person h", 6, persons(8).length());
        String three = persons(8) + "heir h i;heir h j;heir h k;";
        good("6: 3 HEIRS of one", three, 8);
        bad("6: a fourth HEIR, at the second NAME", three + "heir h l;", 6, three.length() + 7);
        bad("6: a fourth HEIR, behind 5: told already", three + "heir h i;", 5, three.length() + 7);
        bad("6: a fourth HEIR, behind 5: itself", three + "heir h h;", 5, three.length() + 7);
        bad("6: a fourth HEIR, behind 3", three + "heir h a;", 3, three.length() + 7);
        good("6: 3 HEIRS of each", persons(4) + "heir h i;heir h j;heir h k;heir i h;heir i j;heir i k;"
            + "heir j h;heir j i;heir j k;heir k h;heir k i;heir k j;", 4);
        good("6: 7 HOUSES and 8 PERSONS, all DOORS", seven + allDoors() + persons(8).substring(8), 8);
    }

    private static String allDoors() {
        StringBuilder b = new StringBuilder();
        for (char c = 'a'; c <= 'g'; c++) {
            for (char d = 'a'; d < c; d++) {
                b.append("door ").append(c).append(' ').append(d).append(';');
            }
        }
        return b.toString();
    }

    private static void theLeastKind() {
        bad("FAULTS: the first along the text: 3 ahead of a later 1", "house a;house a;?", 3, 14);
        bad("FAULTS: the first along the text: 5 ahead of a later 1", TWO + "owes p p 12345;", 5, BEHIND + 7);
        bad("FAULTS: the first along the text: 4 ahead of a later 1", TWO + "owes p q 100?", 4, BEHIND + 9);
        bad("FAULTS: the first along the text: 2 ahead of a later 1", "house house?", 2, 6);
        bad("FAULTS: the first along the text: 1 ahead of a later 3", "house ?;house a;house a;", 1, 6);
        bad("FAULTS: of one TOKEN the least kind: 1, not 2", "house a 12345", 1, 8);
        bad("FAULTS: of one TOKEN the least kind: 1, not 4", TWO + "owes p q 10000;", 1, BEHIND + 9);
        bad("FAULTS: of one TOKEN the least kind: 2, not 3", TWO + "person r in ppppppppp;", 2, BEHIND + 12);
    }

    private static void talesOfSoManyBytes() {
        cases.edge("11: TALES of 0 bytes", check -> {
            SorryWalk x = Texts.of(TWO);
            check.gives(x, "tales(0)", x.tales(0), 0);
            check.due("fault(0)", x.fault(0), 0);
        });
        cases.edge("11: TALES of 300 bytes, read to the last", check -> {
            SorryWalk x = Texts.of(TWO);
            check.gives(x, "tales(300)", Texts.tales(x, "any;" + times(" ", 290) + "die p;"), 2);
            x.live(0);
            check.gives(x, "lived(3)", x.lived(3) + x.lived(0), 2);
        });
        cases.edge("11: 301 bytes are too many, the tape stays", check -> {
            SorryWalk x = Texts.of(TWO);
            Texts.feed(x, times(" ", 320));
            check.refused(x, "tales(301)", x.tales(301), 1);
            check.due("feed", x.feed(0, 0, 0, 0, 0), 340);
            check.gives(x, "tales(300)", x.tales(300), 0);
            check.due("the tape is empty then", x.feed(0, 0, 0, 0, 0), 20);
        });
        cases.edge("11: n above what the tape has", check -> {
            SorryWalk x = Texts.of(TWO);
            Texts.feed(x, "any;                ");
            check.refused(x, "tales(21)", x.tales(21), 1);
            check.gives(x, "tales(20)", x.tales(20), 1);
        });
        cases.edge("11: n below 0", check -> {
            SorryWalk x = Texts.of(TWO);
            check.refused(x, "tales(-1)", x.tales(-1), 1);
            check.refused(x, "tales(min)", x.tales(Integer.MIN_VALUE), 1);
        });
        cases.edge("11: TALES in place of those ahead", check -> {
            SorryWalk x = Texts.of(TWO, "loop 9;night 9;end;");
            Texts.tales(x, "night 1;");
            check.gives(x, "live(0)", x.live(0), 1);
            check.gives(x, "told(3)", x.told(3), 1);
        });
        cases.edge("11: TALES behind some whose FAULT was within three others", check -> {
            SorryWalk x = Texts.of(TWO);
            check.refused(x, "tales", Texts.tales(x, "loop 1;loop 1;loop 1;?"), 9);
            check.gives(x, "tales", Texts.tales(x, "any;"), 1);
            check.refused(x, "tales", Texts.tales(x, "loop 1;loop 1;loop 1;?"), 9);
            check.gives(x, "three again", Texts.tales(x, "loop 1;loop 1;loop 1;end;end;end;"), 3);
            check.refused(x, "tales", Texts.tales(x, "loop 1;?"), 9);
            check.refused(x, "an end without a beginning", Texts.tales(x, "end;"), 9);
        });
        cases.edge("11: 30 STEPS behind 30 with a FAULT", check -> {
            SorryWalk x = Texts.of(TWO);
            check.refused(x, "tales", Texts.tales(x, times("any;", 30) + "?"), 9);
            check.gives(x, "tales", Texts.tales(x, times("any;", 30)), 30);
        });
        cases.edge("10: 7 HOUSES, 8 PERSONS behind as many with a FAULT", check -> {
            SorryWalk x = new SorryWalk();
            String full = "house a;house b;house c;house d;house e;house f;house g;" + persons(8).substring(8);
            check.refused(x, "land", Texts.land(x, full + "?"), 9);
            check.gives(x, "land", Texts.land(x, full), 8);
        });
        cases.edge("11: NAMES are of the LAND that is there", check -> {
            SorryWalk x = Texts.of(TWO);
            Texts.land(x, "house c;person r in c;");
            check.gives(x, "tales", Texts.tales(x, "die r;salt c;"), 2);
            check.refused(x, "tales", Texts.tales(x, "die p;"), 9);
            check.due("fault(0)", x.fault(0), 3);
        });
        cases.edge("11: TALES leave the LAND as it is", check -> {
            SorryWalk x = Texts.of(TWO);
            x.night(5);
            Texts.tales(x, "die p;");
            check.gives(x, "told(3)", x.told(3), 5);
            check.gives(x, "told(7)", x.told(7), 0);
        });
    }

    private static void talesFaults() {
        badTales("1: no TOKEN begins so", "any;?", 1, 4);
        badTales("1: a NUMBER of 5 digits", "night 00001;", 1, 6);
        badTales("2: no STEP begins with a NAME", "p;", 2, 0);
        badTales("2: no STEP begins with a NUMBER", "1;", 2, 0);
        badTales("2: no STEP begins with house", "house c;", 2, 0);
        badTales("2: an end without a beginning", "end;", 2, 0);
        badTales("2: an end more than beginnings", "loop 1;end;end;", 2, 11);
        badTales("2: the text's end ahead of an end", "loop 1;any;", 2, 11);
        badTales("2: the text's end ahead of an end, blanks and all", "when rest p;any; \n", 2, 18);
        badTales("2: the text's end ahead of the second end", "loop 1;when rest p;end;", 2, 23);
        badTales("2: the text's end behind end", "loop 1;end", 2, 10);
        badTales("2: the text's end behind any", "any", 2, 3);
        badTales("2: no TEST", "when ;end;", 2, 5);
        badTales("2: no such TEST", "when night 1;end;", 2, 5);
        badTales("2: a TEST with ; for a COMPARES", "when labour a;3;end;", 2, 13);
        badTales("2: a TEST with two COMPARES", "when labour a<=3;end;", 2, 14);
        badTales("2: a TEST with a STEP's WORD for a COMPARES", "when labour a any;end;", 2, 14);
        badTales("2: a TEST without a NUMBER", "when labour a<;end;", 2, 14);
        badTales("2: forge without to", "forge p q 1;", 2, 8);
        badTales("2: at without in", "when at p a;end;", 2, 10);
        badTales("3: die of a HOUSE", "die a;", 3, 4);
        badTales("3: die of nobody", "die z;", 3, 4);
        badTales("3: forgive of a HOUSE", "forgive a p;", 3, 8);
        badTales("3: forgive to a HOUSE", "forgive p a;", 3, 10);
        badTales("3: salt of a PERSON", "salt p;", 3, 5);
        badTales("3: sweep of a PERSON", "sweep p;", 3, 6);
        badTales("3: forge of a HOUSE", "forge a to p 1;", 3, 6);
        badTales("3: forge to a HOUSE", "forge p to a 1;", 3, 11);
        badTales("3: labour of a PERSON", "when labour p<1;end;", 3, 12);
        badTales("3: rest of a HOUSE", "when rest a;end;", 3, 10);
        badTales("3: at of a HOUSE", "when at a in a;end;", 3, 8);
        badTales("3: at in a PERSON", "when at p in p;end;", 3, 13);
        goodTales("night 1 to 9: 1", "night 1;", 1);
        goodTales("night 1 to 9: 9", "night 9;", 1);
        badTales("4: night 0", "night 0;", 4, 6);
        badTales("4: night 10", "night 10;", 4, 6);
        goodTales("loop 1 to 99: 1", "loop 1;end;", 1);
        goodTales("loop 1 to 99: 99", "loop 99;end;", 1);
        badTales("4: loop 0", "loop 0;end;", 4, 5);
        badTales("4: loop 100", "loop 100;end;", 4, 5);
        goodTales("forge 1 to 99: 1", "forge p to q 1;", 1);
        goodTales("forge 1 to 99: 99", "forge p to q 99;", 1);
        badTales("4: forge 0", "forge p to q 0;", 4, 13);
        badTales("4: forge 100", "forge p to q 100;", 4, 13);
        goodTales("when labour 0 to 9,999: 0", "when labour a = 0;end;", 1);
        goodTales("when labour 0 to 9,999: 9999", "when labour a > 9999;end;", 1);
        badTales("1: when labour 10000", "when labour a > 10000;end;", 1, 16);
        goodTales("TALES have no FAULT 5: a PERSON and itself", "forge p to p 1;forgive q q;", 2);
    }

    private static void talesMany() {
        goodTales("6: 30 STEPS", times("any;", 30), 30);
        badTales("6: a 31st STEP, at its WORD", times("any;", 30) + "any;", 6, 120);
        badTales("6: a 31st STEP, whatever follows", times("any;", 30) + "night ?", 6, 120);
        for (String word : "night die forgive salt sweep forge any when loop stop".split(" ")) {
            badTales("6: a 31st STEP that is " + word, times("any;", 30) + word, 6, 120);
        }
        badTales("6: behind 30 what is no STEP can't stand there", times("any;", 30) + "house", 2, 120);
        badTales("6: behind 30 an end without a beginning", times("any;", 30) + "end;", 2, 120);
        goodTales("6: end is no STEP: 30 with 15 ends", times("loop 1;any;end;", 15), 30);
        badTales("6: end is no STEP: a 31st behind 15 ends", times("loop 1;any;end;", 15) + "any;", 6, 225);
        goodTales("6: when and loop are STEPS: 27 loops in 300 bytes", times("loop 1;end;", 27), 27);
        badTales("6: a 31st within a loop", times("any;", 29) + "loop 1;any;end;", 6, 123);
        goodTales("6: end behind the 30th", times("any;", 29) + "loop 1;end;", 30);
    }

    private static void talesDeep() {
        goodTales("7: three within each other", "loop 1;when rest p;loop 1;end;end;end;", 3);
        badTales("7: a loop within three others, at its WORD", "loop 1;loop 1;loop 1;loop 1;", 7, 21);
        badTales("7: a when within three others, at its WORD", "loop 1;loop 1;loop 1;when rest p;", 7, 21);
        badTales("7: a loop within three whens", times("when rest p;", 3) + "loop 1;", 7, 36);
        badTales("7: whatever follows", "loop 1;loop 1;loop 1;loop ?", 7, 21);
        goodTales("7: behind an end there is room again", "loop 1;loop 1;loop 1;end;loop 1;end;end;loop 1;end;end;", 5);
        goodTales("7: within three there may be others", "loop 1;loop 1;loop 1;any;stop;end;end;end;", 5);
        badTales("7: 6 is ahead of 7", times("loop 1;", 3) + times("any;", 27) + "loop 1;", 6, 129);
    }

    private static void fault() {
        cases.edge("12: NONE ahead of any", check -> {
            SorryWalk x = new SorryWalk();
            check.due("fault(0)", x.fault(0), -1);
            check.due("fault(1)", x.fault(1), -1);
        });
        cases.edge("12: NONE behind one with STATUS 1 alone", check -> {
            SorryWalk x = new SorryWalk();
            x.land(1);
            x.tales(1);
            check.due("fault(0)", x.fault(0), -1);
            check.due("fault(1)", x.fault(1), -1);
        });
        cases.edge("12: 0 and NONE without a FAULT", check -> {
            SorryWalk x = new SorryWalk();
            x.land(0);
            check.due("fault(0)", x.fault(0), 0);
            check.due("fault(1)", x.fault(1), -1);
        });
        cases.edge("12: a place of 0 is one", check -> {
            SorryWalk x = new SorryWalk();
            Texts.land(x, "?");
            check.due("fault(0)", x.fault(0), 1);
            check.due("fault(1)", x.fault(1), 0);
        });
        cases.edge("12: NONE for others", check -> {
            SorryWalk x = new SorryWalk();
            Texts.land(x, "?");
            for (int what : new int[] {-1, 2, Integer.MIN_VALUE, Integer.MAX_VALUE}) {
                check.due("fault(" + what + ")", x.fault(what), -1);
            }
        });
        cases.edge("12: the latest with STATUS 0 or 9, not with 1", check -> {
            SorryWalk x = new SorryWalk();
            Texts.land(x, "house a;house a;");
            x.land(99);
            x.tales(301);
            check.due("fault(0)", x.fault(0), 3);
            check.due("fault(1)", x.fault(1), 14);
        });
        cases.edge("12: tales() with 0 behind land() with 9", check -> {
            SorryWalk x = new SorryWalk();
            Texts.land(x, "house");
            x.tales(0);
            check.due("fault(0)", x.fault(0), 0);
            check.due("fault(1)", x.fault(1), -1);
        });
        cases.edge("12: tales() with 9 behind land() with 0", check -> {
            SorryWalk x = Texts.of(TWO);
            Texts.tales(x, "loop 1;loop 1;loop 1;loop 1;");
            check.due("fault(0)", x.fault(0), 7);
            check.due("fault(1)", x.fault(1), 21);
        });
        cases.edge("12: a MARK does not take it back", check -> {
            SorryWalk x = Texts.of(TWO);
            x.mark();
            Texts.land(x, "house");
            x.undo();
            check.due("fault(0)", x.fault(0), 2);
        });
    }
}
