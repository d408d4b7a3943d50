import java.util.ArrayList;
import java.util.List;
import java.util.regex.Matcher;
import java.util.regex.Pattern;

/**
 * A second reader of LANDS and TALES, to compare with: all TOKENS are found first, then held against the PARTS and
 * STEPS as the document writes them, all of these at once, till none of them fits.
 */
final class TextModel {
    /** +h, +p: a new NAME; h, p: a NAME told ahead, with ! another one than the first, with ^ an HEIR; ?: COMPARES. */
    private static final String[] PARTS = {
        "house +h [salt] ;", "door h h! ;", "person +p in h [dead] [deaf] [keeps] ;", "owes p p! 0-99 ;", "heir p p^ ;"};
    private static final String[] STEPS = {
        "night 1-9 ;", "die p ;", "forgive p p ;", "salt h ;", "sweep h ;", "forge p to p 1-99 ;", "any ;",
        "when labour h ? 0-9999 ;", "when rest p ;", "when at p in h ;", "loop 1-99 ;", "stop ;", "end ;"};
    private static final List<String> KEYWORDS = List.of(("house salt door person in dead deaf keeps owes heir night die"
        + " forgive sweep forge to any when labour rest at loop end stop").split(" "));
    private static final Pattern TOKEN = Pattern.compile("[a-z]+|[0-9]+|[^a-z0-9 \\n]");

    final Model land;
    final List<String> houseNames = new ArrayList<>();
    final List<String> personNames = new ArrayList<>();
    /** The STEPS and ends as they stand, each as its words. */
    final List<List<String>> lines = new ArrayList<>();
    int fault = 0;
    int place = -1;
    private int steps = 0;
    private int depth = 0;

    private TextModel(Model land) {
        this.land = land;
    }

    static TextModel land(String text) {
        TextModel t = new TextModel(new Model());
        t.read(text, variants(PARTS));
        return t;
    }

    static TextModel tales(String text, TextModel land) {
        TextModel t = new TextModel(land.land);
        t.houseNames.addAll(land.houseNames);
        t.personNames.addAll(land.personNames);
        t.read(text, variants(STEPS));
        if (t.fault == 0 && t.depth > 0) {
            t.isFault(2, text.length());
        }
        return t;
    }

    int steps() {
        return steps;
    }

    /** With each [word], and without it. */
    private static List<List<String>> variants(String[] patterns) {
        List<String> open = new ArrayList<>(List.of(patterns));
        List<List<String>> closed = new ArrayList<>();
        while (!open.isEmpty()) {
            String one = open.remove(0);
            if (one.contains("[")) {
                open.add(one.replaceFirst("\\[\\w+\\] ", ""));
                open.add(one.replaceFirst("\\[(\\w+)\\]", "$1"));
            } else {
                closed.add(List.of(one.split(" ")));
            }
        }
        return closed;
    }

    private boolean isFault(int kind, int where) {
        fault = kind;
        place = where;
        return true;
    }

    private void read(String text, List<List<String>> patterns) {
        List<List<String>> fitting = patterns;
        List<String> line = new ArrayList<>();
        Matcher m = TOKEN.matcher(text);
        while (m.find()) {
            String token = m.group();
            if (!token.matches("[a-z]+|[0-9]{1,4}|[;<>=]")) {
                isFault(1, m.start());
                return;
            }
            List<List<String>> left = new ArrayList<>();
            for (List<String> pattern : fitting) {
                if (stands(token, pattern.get(line.size()))) {
                    left.add(pattern);
                }
            }
            if (left.isEmpty() || token.equals("end") && depth == 0) {
                isFault(2, m.start());
                return;
            }
            line.add(token);
            if (isBad(line, left.get(0).get(line.size() - 1), m.start())) {
                return;
            }
            fitting = left;
            if (token.equals(";")) {
                take(line, left.get(0));
                line = new ArrayList<>();
                fitting = patterns;
            }
        }
        if (!line.isEmpty()) {
            isFault(2, text.length());
        }
    }

    private static boolean stands(String token, String element) {
        if (element.matches("\\d+-\\d+")) {
            return token.matches("\\d+");
        }
        if (element.equals("?")) {
            return token.matches("[<>=]");
        }
        if (element.matches("\\+?[hp][!^]?")) {
            return token.matches("[a-z]{1,8}") && !KEYWORDS.contains(token);
        }
        return token.equals(element);
    }

    /** FAULTS 3 to 7 of a TOKEN that may stand where it does. */
    private boolean isBad(List<String> line, String element, int where) {
        String token = line.get(line.size() - 1);
        if (line.size() == 1) {
            return isOneTooMany(token, where);
        }
        List<String> names = element.contains("h") ? houseNames : personNames;
        switch (element) {
            case "+h":
            case "+p":
                return (houseNames.contains(token) || personNames.contains(token)) && isFault(3, where);
            case "h":
            case "p":
                return !names.contains(token) && isFault(3, where);
            case "h!":
            case "p!":
            case "p^":
                return !names.contains(token) && isFault(3, where)
                    || token.equals(line.get(1)) && isFault(5, where)
                    || element.equals("p^") && isBadHeir(line.get(1), token, where);
            default:
                if (!element.matches("\\d+-\\d+")) {
                    return false;
                }
                int number = Integer.parseInt(token);
                String[] ends = element.split("-");
                return (number < Integer.parseInt(ends[0]) || number > Integer.parseInt(ends[1])) && isFault(4, where);
        }
    }

    private boolean isBadHeir(String person, String heir, int where) {
        List<Integer> heirs = land.heirs.get(personNames.indexOf(person));
        return heirs.contains(personNames.indexOf(heir)) && isFault(5, where) || heirs.size() == 3 && isFault(6, where);
    }

    private boolean isOneTooMany(String word, int where) {
        switch (word) {
            case "house": return houseNames.size() == 7 && isFault(6, where);
            case "person": return personNames.size() == 8 && isFault(6, where);
            case "door":
            case "owes":
            case "heir":
            case "end": return false;
            default:
                boolean deep = word.equals("when") || word.equals("loop");
                return steps == 30 && isFault(6, where) || deep && depth == 3 && isFault(7, where);
        }
    }

    private void take(List<String> line, List<String> pattern) {
        int a = line.size() > 2 && pattern.get(1).equals("p") ? personNames.indexOf(line.get(1)) : -1;
        switch (line.get(0)) {
            case "house":
                land.salt[land.houses++] = line.contains("salt");
                houseNames.add(line.get(1));
                break;
            case "door":
                int g = houseNames.indexOf(line.get(1));
                int h = houseNames.indexOf(line.get(2));
                land.door[g][h] = true;
                land.door[h][g] = true;
                break;
            case "person":
                int p = land.persons++;
                personNames.add(line.get(1));
                land.at[p] = houseNames.indexOf(line.get(3));
                land.home[p] = land.at[p];
                land.dead[p] = line.contains("dead");
                land.deaf[p] = line.contains("deaf");
                land.keeps[p] = line.contains("keeps");
                break;
            case "owes":
                land.owes[a][personNames.indexOf(line.get(2))] = Integer.parseInt(line.get(3));
                break;
            case "heir":
                land.heirs.get(a).add(personNames.indexOf(line.get(2)));
                break;
            default:
                takeStep(line);
        }
    }

    private void takeStep(List<String> line) {
        String word = line.get(0);
        lines.add(line);
        steps += word.equals("end") ? 0 : 1;
        depth += word.equals("end") ? -1 : word.equals("when") || word.equals("loop") ? 1 : 0;
    }
}
