import java.util.ArrayList;
import java.util.List;
import java.util.Random;

/** LANDS and TALES by chance, many of them with something wrong, in all ways of setting blanks. */
final class SomeTexts {
    private static final String[] KEYWORDS = ("house salt door person in dead deaf keeps owes heir night die forgive sweep"
        + " forge to any when labour rest at loop end stop").split(" ");
    /** NAMES that are almost a keyword, short, or as long as can be. */
    private static final String[] NAMES = ("a b c d e f g p q r s t u v w hous houses inn i ends anyy stopp z labourer"
        + " abcdefgh abcdefgi aa zzzzzzzz aaaaaaaa").split(" ");
    private static final String[] ODD = {"0", "00", "0007", "1", "9", "10", "99", "100", "0099", "9999", "10000", "00001",
        "123456789012", ";", "<", ">", "=", "abcdefghi", "householder", "A", "?", "&", "\t", "\r", "\0", "\u00e9", "\u00ff",
        ":", "`", "{", "/", "Z", "_", "-"};

    private final Random random;
    /** So that more than 30 STEPS find room in a text. */
    private boolean shortSteps = false;

    SomeTexts(Random random) {
        this.random = random;
    }

    private int upTo(int n) {
        return random.nextInt(n);
    }

    private String of(List<String> list) {
        return list.isEmpty() || upTo(500) == 0 ? NAMES[upTo(NAMES.length)] : list.get(upTo(list.size()));
    }

    private String number(int least, int most) {
        int v = upTo(300) == 0 ? upTo(120) : least + upTo(most - least + 1);
        return upTo(8) == 0 && v < 1000 ? "0" + v : "" + v;
    }

    private static void add(List<String> tokens, String... more) {
        tokens.addAll(List.of(more));
    }

    /** Up to 8 HOUSES, 9 PERSONS, so that a text may have one too many. */
    String land() {
        List<String> tokens = new ArrayList<>();
        List<String> houses = new ArrayList<>();
        List<String> persons = new ArrayList<>();
        List<String> heirs = new ArrayList<>();
        int parts = 3 + upTo(50);
        int mostHouses = 1 + upTo(upTo(12) == 0 ? 8 : 7);
        int mostPersons = 1 + upTo(upTo(12) == 0 ? 9 : 8);
        for (int k = 0; k < parts; k++) {
            int kind = upTo(12);
            if (kind < 3 && houses.size() < mostHouses || houses.isEmpty()) {
                addHouse(tokens, houses, persons);
            } else if (kind < 5 && houses.size() > 1) {
                String a = of(houses);
                add(tokens, "door", a, another(houses, a), ";");
            } else if (kind < 8 && persons.size() < mostPersons || persons.size() < 2) {
                addPerson(tokens, houses, persons);
            } else {
                addBetween(tokens, persons, heirs, kind < 10);
            }
        }
        return render(spoilt(tokens), 900);
    }

    private String free(List<String> houses, List<String> persons) {
        for (int k = 0; k < 100; k++) {
            String name = NAMES[upTo(NAMES.length)];
            if (!houses.contains(name) && !persons.contains(name) || upTo(80) == 0) {
                return name;
            }
        }
        return "other";
    }

    private void addHouse(List<String> tokens, List<String> houses, List<String> persons) {
        String name = free(houses, persons);
        houses.add(name);
        add(tokens, "house", name);
        if (upTo(5) == 0) {
            add(tokens, "salt");
        }
        add(tokens, ";");
    }

    private void addPerson(List<String> tokens, List<String> houses, List<String> persons) {
        String name = free(houses, persons);
        add(tokens, "person", name, "in", of(houses));
        persons.add(name);
        for (String word : new String[] {"dead", "deaf", "keeps"}) {
            if (upTo(3) == 0) {
                add(tokens, word);
            }
        }
        add(tokens, ";");
    }

    /** One of a list, but not this one, as far as there is one; seldom this one all the same. */
    private String another(List<String> list, String than) {
        String found = of(list);
        for (int k = 0; k < 20 && found.equals(than) && upTo(300) > 0; k++) {
            found = of(list);
        }
        return found;
    }

    /** OWES, or an HEIR: these rather once than twice, rather up to three of one than more. */
    private void addBetween(List<String> tokens, List<String> persons, List<String> heirs, boolean owes) {
        String a = of(persons);
        String b = another(persons, a);
        long many = heirs.stream().filter(told -> told.startsWith(a + " ")).count();
        boolean good = many < 3 && !heirs.contains(a + " " + b);
        if (owes || !good && upTo(40) > 0) {
            add(tokens, "owes", a, b, number(0, upTo(3) == 0 ? 99 : 6), ";");
        } else {
            heirs.add(a + " " + b);
            add(tokens, "heir", a, b, ";");
        }
    }

    String tales(TextModel land) {
        List<String> tokens = new ArrayList<>();
        shortSteps = upTo(6) == 0;
        addSteps(tokens, land, 0, 1 + upTo(shortSteps ? 40 : 12));
        return render(spoilt(tokens), 300);
    }

    /** Goes deeper than TALES may, but seldom. */
    private void addSteps(List<String> tokens, TextModel land, int depth, int many) {
        int left = many;
        while (left > 0) {
            left--;
            int kind = upTo(depth < 3 || upTo(12) == 0 && depth < 5 ? 12 : 8);
            if (kind < 8) {
                addStep(tokens, land, shortSteps && upTo(9) > 0 ? 5 : kind);
                continue;
            }
            if (kind < 10) {
                add(tokens, "loop", number(1, upTo(3) == 0 ? 99 : 5), ";");
            } else {
                addTest(tokens, land);
            }
            int inside = upTo(left + 1);
            left -= inside;
            addSteps(tokens, land, depth + 1, inside);
            add(tokens, "end", ";");
        }
    }

    private void addStep(List<String> tokens, TextModel land, int kind) {
        switch (kind) {
            case 0: add(tokens, "die", of(land.personNames), ";"); break;
            case 1: add(tokens, "forgive", of(land.personNames), of(land.personNames), ";"); break;
            case 2: add(tokens, "salt", of(land.houseNames), ";"); break;
            case 3: add(tokens, "sweep", of(land.houseNames), ";"); break;
            case 4: add(tokens, "forge", of(land.personNames), "to", of(land.personNames), number(1, 99), ";"); break;
            case 5: add(tokens, upTo(9) == 0 ? "stop" : "any", ";"); break;
            default: add(tokens, "night", number(1, 9), ";"); break;
        }
    }

    private void addTest(List<String> tokens, TextModel land) {
        switch (upTo(3)) {
            case 0: add(tokens, "when", "rest", of(land.personNames), ";"); break;
            case 1: add(tokens, "when", "at", of(land.personNames), "in", of(land.houseNames), ";"); break;
            default:
                String sign = "<>=".substring(upTo(3)).substring(0, 1);
                add(tokens, "when", "labour", of(land.houseNames), sign, number(0, upTo(3) == 0 ? 9999 : 3), ";");
        }
    }

    private List<String> spoilt(List<String> tokens) {
        int times = upTo(3) == 0 ? 1 + upTo(2) : 0;
        for (int k = 0; k < times && !tokens.isEmpty(); k++) {
            int at = upTo(tokens.size());
            switch (upTo(6)) {
                case 0: tokens.remove(at); break;
                case 1: tokens.add(at, any(tokens)); break;
                case 2: tokens.addAll(at, List.copyOf(tokens.subList(upTo(at + 1), at))); break;
                case 3: tokens.subList(at, tokens.size()).clear(); break;
                default: tokens.set(at, any(tokens)); break;
            }
        }
        return tokens;
    }

    private String any(List<String> tokens) {
        switch (upTo(4)) {
            case 0: return KEYWORDS[upTo(KEYWORDS.length)];
            case 1: return NAMES[upTo(NAMES.length)];
            case 2: return ODD[upTo(ODD.length)];
            default: return tokens.get(upTo(tokens.size()));
        }
    }

    /** Blanks where two TOKENS would be one without them; elsewhere by chance; cut where the text may be no longer. */
    private String render(List<String> tokens, int most) {
        StringBuilder b = new StringBuilder();
        int wide = upTo(3);
        for (String token : tokens) {
            boolean joins = b.length() > 0 && (isLetters(b.charAt(b.length() - 1)) && isLetters(token.charAt(0))
                || Character.isDigit(b.charAt(b.length() - 1)) && Character.isDigit(token.charAt(0)));
            int blanks = (joins && upTo(200) > 0 ? 1 : 0) + (wide == 2 ? upTo(2) : wide == 1 && upTo(9) == 0 ? 1 : 0);
            for (int k = 0; k < blanks; k++) {
                b.append(upTo(4) == 0 ? '\n' : ' ');
            }
            b.append(token);
        }
        if (upTo(8) == 0) {
            b.append("\n ");
        }
        return b.substring(0, Math.min(b.length(), most));
    }

    private static boolean isLetters(char c) {
        return c >= 'a' && c <= 'z';
    }
}
