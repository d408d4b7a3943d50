import java.util.ArrayList;
import java.util.Iterator;
import java.util.List;

/** TALES once more, as a tree that is gone through from its root, to compare with. */
final class TalesModel {
    private static final class Step {
        final List<String> words;
        final List<Step> body = new ArrayList<>();

        Step(List<String> words) {
            this.words = words;
        }
    }

    private final List<Step> root = new ArrayList<>();
    private final List<String> houses;
    private final List<String> persons;
    private Model land;
    private long s;
    private boolean over;
    int done;
    int missed;
    int nights;
    int deaths;
    int said;
    int left;

    TalesModel(TextModel text) {
        houses = text.houseNames;
        persons = text.personNames;
        fill(root, text.lines.iterator());
    }

    private static void fill(List<Step> into, Iterator<List<String>> lines) {
        while (lines.hasNext()) {
            Step step = new Step(lines.next());
            String word = step.words.get(0);
            if (word.equals("end")) {
                return;
            }
            into.add(step);
            if (word.equals("when") || word.equals("loop")) {
                fill(step.body, lines);
            }
        }
    }

    /** What was told of it, kept while it is LIVED anew. */
    int[] told() {
        return new int[] {missed, nights, said, deaths, left};
    }

    /** The LAND behind the TALES; the one given stays as it is. */
    Model live(Model from, int seed) {
        land = from.copy();
        s = seed;
        over = false;
        done = 0;
        missed = 0;
        nights = 0;
        deaths = 0;
        left = 0;
        goThrough(root);
        said = land.said - from.said;
        return land;
    }

    private void goThrough(List<Step> steps) {
        for (Step step : steps) {
            if (!over && done == 300) {
                left = 1;
                over = true;
            }
            if (over) {
                return;
            }
            done++;
            switch (step.words.get(0)) {
                case "loop":
                    for (int k = 0; k < number(step, 1) && !over; k++) {
                        goThrough(step.body);
                    }
                    break;
                case "when":
                    if (holds(step)) {
                        goThrough(step.body);
                    }
                    break;
                case "stop":
                    over = true;
                    break;
                default:
                    missed += isDone(step) ? 0 : 1;
            }
        }
    }

    private static int number(Step step, int k) {
        return Integer.parseInt(step.words.get(k));
    }

    private int person(Step step, int k) {
        return persons.indexOf(step.words.get(k));
    }

    private boolean holds(Step step) {
        switch (step.words.get(1)) {
            case "rest": return !land.ghost(person(step, 2));
            case "at": return land.at[person(step, 2)] == houses.indexOf(step.words.get(4));
            default:
                int sign = Integer.compare(land.labour[houses.indexOf(step.words.get(2))], number(step, 4));
                return sign == "<=>".indexOf(step.words.get(3)) - 1;
        }
    }

    private boolean isDone(Step step) {
        switch (step.words.get(0)) {
            case "night":
                if (land.night + number(step, 1) > 9999) {
                    return false;
                }
                nights += number(step, 1);
                land = land.nights(number(step, 1));
                return true;
            case "die": return dies(person(step, 1));
            case "forgive":
                int living = person(step, 1);
                int debtor = person(step, 2);
                boolean can = !land.dead[living] && land.owes[debtor][living] > 0;
                land.owes[debtor][living] = can ? 0 : land.owes[debtor][living];
                return can;
            case "salt":
            case "sweep":
                int h = houses.indexOf(step.words.get(1));
                boolean is = step.words.get(0).equals("salt");
                boolean was = land.salt[h];
                land.salt[h] = is;
                return is != was;
            case "forge":
                int ghost = person(step, 1);
                int to = person(step, 3);
                if (!land.dead[ghost] || land.dead[to]) {
                    return false;
                }
                land.owes[ghost][to] = Math.min(99, land.owes[ghost][to] + number(step, 4));
                return true;
            default: return anyDies();
        }
    }

    private boolean dies(int p) {
        if (land.dead[p]) {
            return false;
        }
        land = land.without(p);
        deaths++;
        return true;
    }

    private boolean anyDies() {
        List<Integer> living = new ArrayList<>();
        for (int p = 0; p < land.persons; p++) {
            if (!land.dead[p]) {
                living.add(p);
            }
        }
        if (living.isEmpty()) {
            return false;
        }
        s = (s * 2969 + 11171) % 65536;
        return dies(living.get((int) (s / 8 % living.size())));
    }
}
