import java.util.ArrayList;
import java.util.List;
import java.util.Random;

/**
 * Whole runs of calls by chance (always the same chance), with TEXTS good and bad, deeds, TALES and MARKS, compared
 * with TextModel, TalesModel and Model: behind each call its answer, its STATUS, and now and then all of the LAND.
 */
public final class RunTest {
    private static final Check check = new Check("RunTest");
    private static final Random random = new Random(71);
    private static final SomeTexts texts = new SomeTexts(random);

    private SorryWalk x = new SorryWalk();
    private TextModel names = TextModel.land("");
    private Model m = names.land;
    private TalesModel tales = null;
    private int[] lived = null;
    private int fault = -1;
    private int place = -1;
    private final List<Object[]> marks = new ArrayList<>();
    private long top = 0;
    private long bottom = 1;

    public static void main(String[] args) {
        int rounds = args.length > 0 ? Integer.parseInt(args[0]) : 1500;
        for (int round = 0; round < rounds; round++) {
            new RunTest().run();
        }
        check.end();
    }

    private static int upTo(int n) {
        return random.nextInt(n);
    }

    private void run() {
        for (int k = 0; k < 40; k++) {
            switch (upTo(16)) {
                case 0:
                case 1: readLand(); break;
                case 2:
                case 3:
                case 4: readTales(); break;
                case 5: live(); break;
                case 6: mean(); break;
                case 7: mark(); break;
                case 8: undo(); break;
                default: someDeed(); break;
            }
            check.due("fault(0)", x.fault(0), fault);
            check.due("fault(1)", x.fault(1), place);
            check.due("top()", x.top(), top);
            check.due("bottom()", x.bottom(), bottom);
            compareLived();
        }
        compareLand();
    }

    /** The answer and its STATUS: a status above 0 is due with NONE. */
    private void same(String call, long got, int status, long want) {
        check.due(call, got, status == 0 ? want : -1);
        check.due("status() behind " + call, x.status(), status);
    }

    private void readLand() {
        String text = texts.land();
        TextModel t = TextModel.land(text);
        same("land of " + text, Texts.land(x, text), t.fault == 0 ? 0 : 9, t.land.persons);
        fault = t.fault;
        place = t.place;
        if (t.fault == 0) {
            names = t;
            m = t.land;
            tales = null;
            compareLand();
        }
    }

    private void readTales() {
        String text = texts.tales(names);
        TextModel t = TextModel.tales(text, names);
        same("tales of " + text, Texts.tales(x, text), t.fault == 0 ? 0 : 9, t.steps());
        fault = t.fault;
        place = t.place;
        if (t.fault == 0) {
            tales = new TalesModel(t);
        }
    }

    private void live() {
        int seed = upTo(9) == 0 ? 9990 + upTo(20) : upTo(10000);
        int status = seed > 9999 ? 1 : tales == null ? 6 : 0;
        if (status == 0) {
            m = tales.live(m, seed);
            lived = tales.told();
        }
        same("live", x.live(seed), status, status == 0 ? tales.done : 0);
        compareLand();
    }

    private void compareLived() {
        for (int what = 0; what < 5; what++) {
            int got = x.lived(what);
            int status = lived == null ? 6 : 0;
            same("lived(" + what + ")", got, status, status == 0 ? lived[what] : 0);
        }
    }

    private void mean() {
        int seed = upTo(4) == 0 ? 9980 + upTo(30) : upTo(10000);
        int many = upTo(23) - 1;
        int status = seed > 9999 || many < 1 || many > 20 || seed + many > 10000 ? 1 : tales == null ? 6 : 0;
        if (status == 0) {
            long sum = 0;
            for (int k = 0; k < many; k++) {
                sum += tales.live(m, seed + k).sorrow();
            }
            long divisor = 1;
            for (long d = 1; d <= many; d++) {
                divisor = sum % d == 0 && many % d == 0 ? d : divisor;
            }
            top = sum / divisor;
            bottom = many / divisor;
        }
        check.due("mean", x.mean(seed, many), status == 0);
        check.due("status() behind mean", x.status(), status);
    }

    private void mark() {
        boolean can = marks.size() < 3;
        if (can) {
            marks.add(new Object[] {names, m.copy(), tales});
        }
        same("mark", x.mark(), can ? 0 : 4, marks.size());
    }

    private void undo() {
        boolean can = !marks.isEmpty();
        if (can) {
            Object[] kept = marks.remove(marks.size() - 1);
            names = (TextModel) kept[0];
            m = (Model) kept[1];
            tales = (TalesModel) kept[2];
        }
        same("undo", x.undo(), can ? 0 : 6, marks.size());
        compareLand();
    }

    private void someDeed() {
        int p = upTo(m.persons + 2) - 1;
        int q = upTo(m.persons + 2) - 1;
        int many = upTo(8) == 0 ? upTo(102) : upTo(6);
        boolean is = upTo(2) == 0;
        boolean inLand = p >= 0 && p < m.persons;
        boolean two = inLand && q >= 0 && q < m.persons && p != q;
        int status;
        switch (upTo(6)) {
            case 0:
                status = !inLand ? 1 : m.dead[p] ? 7 : 0;
                m = status == 0 ? m.without(p) : m;
                same("die", x.die(p), status, m.sorrow());
                break;
            case 1:
                status = !two ? 1 : m.dead[p] || m.owes[q][p] == 0 ? 7 : 0;
                same("forgive", x.forgive(p, q), status, two ? m.owes[q][p] : 0);
                if (status == 0) {
                    m.owes[q][p] = 0;
                }
                break;
            case 2:
                status = !two || many < 1 || many > 99 ? 1 : !m.dead[p] || m.dead[q] ? 7 : 0;
                if (status == 0) {
                    m.owes[p][q] = Math.min(99, m.owes[p][q] + many);
                }
                same("forge", x.forge(p, q, many), status, two ? m.owes[p][q] : 0);
                break;
            case 3:
                status = !inLand ? 1 : m.keeps[p] == is ? 7 : 0;
                check.due("keep", x.keep(p, is), status == 0);
                check.due("status() behind keep", x.status(), status);
                if (status == 0) {
                    m.keeps[p] = is;
                }
                break;
            case 4: houseDeed(p, is); break;
            default:
                status = many < 1 || many > 99 ? 1 : m.night + many > 9999 ? 4 : 0;
                m = status == 0 ? m.nights(many) : m;
                same("night", x.night(many), status, m.night);
                break;
        }
        if (upTo(4) == 0) {
            compareLand();
        }
    }

    private void houseDeed(int p, boolean is) {
        int g = upTo(m.houses + 2) - 1;
        int h = upTo(m.houses + 2) - 1;
        boolean inLand = h >= 0 && h < m.houses;
        boolean isPerson = p >= 0 && p < m.persons;
        boolean two = inLand && g >= 0 && g < m.houses && g != h;
        int status;
        boolean got;
        switch (upTo(3)) {
            case 0:
                status = !inLand ? 1 : m.salt[h] == is ? 7 : 0;
                got = x.salt(h, is);
                if (status == 0) {
                    m.salt[h] = is;
                }
                break;
            case 1:
                status = !two ? 1 : m.door[g][h] == is ? 7 : 0;
                got = x.wall(g, h, is);
                if (status == 0) {
                    m.door[g][h] = is;
                    m.door[h][g] = is;
                }
                break;
            default:
                status = !inLand || !isPerson ? 1 : m.dead[p] || m.at[p] == h ? 7 : 0;
                got = x.move(p, h);
                if (status == 0) {
                    m.at[p] = h;
                    m.home[p] = h;
                }
        }
        check.due("salt, wall, move", got, status == 0);
        check.due("status() behind salt, wall, move", x.status(), status);
    }

    private void compareLand() {
        ModelTest.askState(check, x, m);
        askSums();
    }

    /** What Model has no function for: the plans that are sums. */
    private void askSums() {
        int lonely = 0;
        int mutual = 0;
        int gracious = -1;
        int deepest = -1;
        int[] pair = {-1, -1, 0};
        int[] due = new int[7];
        long ofDead = 0;
        for (int p = 0; p < m.persons; p++) {
            lonely |= m.owesAll(p) + m.owedAll(p) == 0 ? 1 << p : 0;
            deepest = m.owesAll(p) > (deepest < 0 ? 0 : m.owesAll(deepest)) ? p : deepest;
            ofDead += m.dead[p] ? m.owesAll(p) : 0;
            if (!m.dead[p]) {
                due[m.at[p]] += m.owedAll(p);
                gracious = m.owedAll(p) > (gracious < 0 ? 0 : m.owedAll(gracious)) ? p : gracious;
            }
            for (int q = p + 1; q < m.persons; q++) {
                if (m.owes[p][q] > 0 && m.owes[q][p] > 0) {
                    mutual++;
                    if (m.dead[p] && m.dead[q] && m.owes[p][q] + m.owes[q][p] > pair[2]) {
                        pair = new int[] {p, q, m.owes[p][q] + m.owes[q][p]};
                    }
                }
            }
        }
        same("lonely", x.lonely(), 0, lonely);
        same("mutual", x.mutual(), 0, mutual);
        same("gracious", x.gracious(), gracious < 0 ? 6 : 0, gracious);
        same("deepest", x.deepest(), deepest < 0 ? 6 : 0, deepest);
        for (int what = 0; what < 3; what++) {
            same("pair", x.pair(what), pair[0] < 0 ? 6 : 0, pair[what]);
        }
        for (int h = 0; h < m.houses; h++) {
            same("due", x.due(h), 0, due[h]);
            askWithin(h);
        }
        askWeight(ofDead);
    }

    private void askWithin(int h) {
        int all = 0;
        int living = 0;
        for (int p = 0; p < m.persons; p++) {
            all |= m.at[p] == h ? 1 << p : 0;
            living |= m.at[p] == h && !m.dead[p] ? 1 << p : 0;
        }
        same("within(h, 0)", x.within(h, 0), 0, all);
        same("within(h, 1)", x.within(h, 1), 0, living);
        same("within(h, 2)", x.within(h, 2), 0, m.ghostsIn(h));
    }

    private void askWeight(long ofDead) {
        long sorrow = m.sorrow();
        check.due("weight", x.weight(), sorrow > 0);
        check.due("status() behind weight", x.status(), sorrow > 0 ? 0 : 6);
        if (sorrow > 0) {
            top = x.top();
            bottom = x.bottom();
            check.due("weight as a FRACTION", top * sorrow, bottom * ofDead);
            boolean common = false;
            for (long d = 2; d <= bottom; d++) {
                common |= top % d == 0 && bottom % d == 0;
            }
            check.due("a common divisor", common, false);
        }
    }
}
