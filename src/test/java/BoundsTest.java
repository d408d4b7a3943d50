import java.util.Arrays;

/**
 * STATUS 1, "a number that can't be; no such TRAY, HOUSE, PERSON": for each number of each call the last that can be
 * on both sides and the first that can't, and the ends of int. Who is refused changes nothing.
 */
public final class BoundsTest {
    /**
     * A call and what each of its numbers can be: a HOUSE (H), another one (G), a PERSON (P), another one (Q),
     * from .. to, from on (0+), either (0|1, a boolean), or any (the rest is no matter of STATUS 1).
     */
    private static final String[] CALLS = {
        "tray 0..3 0..3 0..60", "write 0..3 any any", "read 0..3 any", "pour 0..3 0+ 0..3 0+ 0+",
        "told 0..9", "person P 0..6", "owed P Q", "heir P 0+", "door H G", "labour H", "within H 0..2",
        "night 1..99", "die P", "forgive P Q", "forge P Q 1..99", "salt H 0|1", "keep P 0|1", "wall H G 0|1", "move P H",
        "way P H", "aim P", "step P", "walks P 0..999", "later P 0..999", "rest P", "quiet H", "harvest H 0..9999",
        "visitors H 0..99", "stays P H 0..99", "must P H", "reach P", "tours P 0..99", "meets P Q", "busiest 1..99",
        "wells H 0..999", "ways P H",
        "heirs P Q", "loss P", "due H", "net P", "wedding H", "weddingSet H", "pardon H 1..20", "pardonSet H 1..20",
        "pair 0..2", "share P Q P", "circle P",
        "live 0..9999", "lived 0..4", "mean 0..9999 1..20"};

    private static final String ONE = "house a;person p in a dead;person q in a;owes p q 2;";
    private static final String FULL = "house a;house b;house c;house d;house e;house f;house g salt;door a b;door b g;door f g;"
        + "person p in a dead;person q in b keeps;person r in c deaf;person s in g dead;person t in a;person u in b;"
        + "person v in d;person w in g;owes p q 5;owes s w 2;owes q p 1;heir q r;heir q t;heir w u;";

    private static final Cases cases = new Cases("BoundsTest");

    public static void main(String[] args) {
        for (String call : CALLS) {
            String[] parts = call.split(" ");
            for (int i = 1; i < parts.length; i++) {
                number(parts, i, ONE, 1, 2);
                number(parts, i, FULL, 7, 8);
            }
            noSuch(parts);
            itself(parts);
        }
        cases.end();
    }

    private static SorryWalk made(String land) {
        SorryWalk x = Texts.of(land, "night 2;any;");
        x.tray(1, 2, 5);
        x.write(1, 3, 77);
        x.mark();
        x.live(5);
        x.weight();
        x.mark();
        x.forge(0, 1, 3);
        Texts.feed(x, "house z;");
        return x;
    }

    private static int[] bounds(String part, int houses, int persons) {
        switch (part) {
            case "H":
            case "G": return new int[] {0, houses - 1};
            case "P":
            case "Q": return new int[] {0, persons - 1};
            case "0+": return new int[] {0, Integer.MAX_VALUE};
            case "any":
            case "0|1": return new int[] {Integer.MIN_VALUE, Integer.MAX_VALUE};
            default:
                String[] ends = part.split("\\.\\.");
                return new int[] {Integer.parseInt(ends[0]), Integer.parseInt(ends[1])};
        }
    }

    /** Numbers that can be, with the other one for G and Q. */
    private static int[] good(String[] parts) {
        int[] numbers = new int[parts.length - 1];
        for (int i = 0; i < numbers.length; i++) {
            numbers[i] = isOther(parts, i + 1) || parts[i + 1].startsWith("1..") ? 1 : 0;
        }
        return numbers;
    }

    private static boolean isOther(String[] parts, int i) {
        return i < parts.length && (parts[i].equals("G") || parts[i].equals("Q"));
    }

    private static int[] with(int[] numbers, int i, int v) {
        int[] changed = numbers.clone();
        changed[i - 1] = v;
        return changed;
    }

    private static void number(String[] parts, int i, String land, int houses, int persons) {
        int[] bounds = bounds(parts[i], houses, persons);
        int[] good = good(parts);
        String of = parts[0] + ", number " + i + " in a LAND of " + houses + " HOUSES, ";
        boolean canBe = houses > 1 || !Arrays.asList(parts).contains("G");
        if (bounds[0] > Integer.MIN_VALUE) {
            cases.edge(of + "below " + bounds[0], check -> {
                refused(check, land, parts[0], with(good, i, bounds[0] - 1));
                refused(check, land, parts[0], with(good, i, Integer.MIN_VALUE));
            });
            if (canBe) {
                cases.edge(of + "just " + bounds[0], check -> taken(check, land, parts, i, bounds[0]));
            }
        }
        if (bounds[1] < Integer.MAX_VALUE) {
            cases.edge(of + "above " + bounds[1], check -> {
                refused(check, land, parts[0], with(good, i, bounds[1] + 1));
                refused(check, land, parts[0], with(good, i, Integer.MAX_VALUE));
            });
            if (canBe) {
                cases.edge(of + "just " + bounds[1], check -> taken(check, land, parts, i, bounds[1]));
            }
        }
    }

    /** Where the number asked about would be the other one as well, that one gives way. */
    private static void taken(Check check, String land, String[] parts, int i, int v) {
        int[] numbers = with(good(parts), i, v);
        if (isOther(parts, i) && numbers[i - 2] == v) {
            numbers[i - 2] = 1 - v;
        }
        if (isOther(parts, i + 1) && numbers[i] == v) {
            numbers[i] = 1 - v;
        }
        SorryWalk x = made(land);
        Object answer = Calls.call(x, parts[0], numbers);
        check.due(parts[0] + Arrays.toString(numbers) + " has STATUS 1", x.status() == 1, false);
        check.due(parts[0] + Arrays.toString(numbers) + " has STATUS 0 or a refusal", x.status() == 0 || Calls.isRefusal(answer), true);
    }

    private static void refused(Check check, String land, String name, int... numbers) {
        SorryWalk x = made(land);
        SorryWalk twin = made(land);
        String call = name + Arrays.toString(numbers);
        Object answer = Calls.call(x, name, numbers);
        check.due(call + " is refused", Calls.isRefusal(answer), true);
        check.due("status() behind " + call, x.status(), 1);
        check.due(call + " changes nothing", Calls.allOf(x).equals(Calls.allOf(twin)), true);
    }

    /** In a LAND of no HOUSES and PERSONS there is not even the first. */
    private static void noSuch(String[] parts) {
        if (parts[1].equals("H") || parts[1].equals("P")) {
            cases.edge(parts[0] + " in an empty LAND", check -> {
                SorryWalk x = new SorryWalk();
                check.due("is refused", Calls.isRefusal(Calls.call(x, parts[0], good(parts))), true);
                check.due("status()", x.status(), 1);
            });
        }
    }

    private static void itself(String[] parts) {
        for (int i = 2; i < parts.length; i++) {
            if (isOther(parts, i)) {
                int at = i;
                cases.edge(parts[0] + ", one and itself", check -> {
                    refused(check, FULL, parts[0], with(good(parts), at, 0));
                    refused(check, FULL, parts[0], with(with(good(parts), at, 6), at - 1, 6));
                });
            }
        }
    }
}
