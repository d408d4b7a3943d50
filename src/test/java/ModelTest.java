import java.util.Random;

/** Compares a SorryWalk with the Model in lands, deeds and questions by chance (always the same chance). */
public final class ModelTest {
    private static final Check check = new Check("ModelTest");
    private static final Random random = new Random(20261118);

    public static void main(String[] args) {
        for (int round = 0; round < 400; round++) {
            Model m = someLand();
            SorryWalk x = Texts.of(m.text());
            for (int k = 0; k < 4; k++) {
                askState(check, x, m);
                askWays(x, m);
                askAhead(x, m);
                askPlans(x, m);
                m = doSomething(x, m);
            }
        }
        for (int round = 0; round < 300; round++) {
            anyCalls();
        }
        check.end();
    }

    private static int upTo(int n) {
        return random.nextInt(n);
    }

    private static Model someLand() {
        Model m = new Model();
        m.houses = 1 + upTo(7);
        m.persons = 1 + upTo(8);
        int doors = 20 + upTo(60);
        int debts = 5 + upTo(30);
        for (int h = 0; h < m.houses; h++) {
            m.salt[h] = upTo(5) == 0;
            for (int g = 0; g < h; g++) {
                m.door[h][g] = upTo(100) < doors;
                m.door[g][h] = m.door[h][g];
            }
        }
        for (int p = 0; p < m.persons; p++) {
            m.at[p] = upTo(m.houses);
            m.home[p] = m.at[p];
            m.dead[p] = upTo(2) == 0;
            m.deaf[p] = upTo(4) == 0;
            m.keeps[p] = upTo(4) == 0;
            for (int q = 0; q < m.persons; q++) {
                if (p != q && upTo(100) < debts) {
                    m.owes[p][q] = upTo(5) == 0 ? upTo(100) : upTo(9);
                }
                if (p != q && upTo(6) == 0 && m.heirs.get(p).size() < 3) {
                    m.heirs.get(p).add(upTo(m.heirs.get(p).size() + 1), q);
                }
            }
        }
        return m.text().length() <= 900 ? m : someLand();
    }

    static void askState(Check check, SorryWalk x, Model m) {
        int[] sets = new int[4];
        int couples = 0;
        for (int h = 0; h < m.houses; h++) {
            sets[0] |= m.salt[h] ? 1 << h : 0;
            check.gives(x, "labour", x.labour(h), m.labour[h]);
            for (int g = 0; g < m.houses; g++) {
                couples += m.door[h][g] ? 1 : 0;
                if (g != h) {
                    check.gives(x, "door", x.door(h, g), m.door[h][g] ? 1 : 0);
                }
            }
        }
        for (int p = 0; p < m.persons; p++) {
            sets[1] |= m.dead[p] ? 1 << p : 0;
            sets[2] |= m.ghost(p) ? 1 << p : 0;
            sets[3] |= m.keeps[p] ? 1 << p : 0;
            int[] of = {m.at[p], m.home[p], m.dead[p] ? 1 : 0, m.deaf[p] ? 1 : 0, m.keeps[p] ? 1 : 0, m.owesAll(p), m.owedAll(p)};
            for (int what = 0; what < of.length; what++) {
                check.gives(x, "person", x.person(p, what), of[what]);
            }
            for (int q = 0; q < m.persons; q++) {
                if (q != p) {
                    check.gives(x, "owed", x.owed(p, q), m.owes[p][q]);
                }
            }
            for (int k = 0; k < 3; k++) {
                same(check, x, "heir", x.heir(p, k), k < m.heirs.get(p).size() ? m.heirs.get(p).get(k) : -1);
            }
        }
        int[] told = {m.houses, m.persons, couples / 2, m.night, m.said, m.sorrow(), sets[0], sets[1], sets[2], sets[3]};
        for (int what = 0; what < told.length; what++) {
            check.gives(x, "told(" + what + ")", x.told(what), told[what]);
        }
    }

    /** An answer, or STATUS 6 where the Model has -1. */
    private static void same(Check check, SorryWalk x, String call, int got, int want) {
        if (want < 0) {
            check.refused(x, call, got, 6);
        } else {
            check.gives(x, call, got, want);
        }
    }

    private static void askWays(SorryWalk x, Model m) {
        int exposed = 0;
        int crowd = -1;
        for (int p = 0; p < m.persons; p++) {
            same(check, x, "aim", x.aim(p), m.ghost(p) ? m.aim(p) : -1);
            check.gives(x, "step", x.step(p), m.step(p));
            check.gives(x, "reach", x.reach(p), m.reach(m.at[p]));
            exposed |= m.ghost(p) ? m.reach(m.at[p]) : 0;
            for (int h = 0; h < m.houses; h++) {
                int way = m.way(m.at[p], h);
                int must = -1;
                int ways = 0;
                for (int[] one : m.allWays(m.at[p], h)) {
                    must &= one[0];
                    ways += one[1] == way ? 1 : 0;
                }
                same(check, x, "way", x.way(p, h), way);
                same(check, x, "must", x.must(p, h), way < 0 ? -1 : must & ~(1 << h) & ~(1 << m.at[p]));
                same(check, x, "ways", x.ways(p, h), way < 0 ? -1 : ways);
            }
        }
        check.gives(x, "exposed", x.exposed(), exposed);
        for (int h = 0; h < m.houses; h++) {
            int many = Integer.bitCount(m.ghostsIn(h));
            if (many > (crowd < 0 ? 0 : Integer.bitCount(m.ghostsIn(crowd)))) {
                crowd = h;
            }
            check.gives(x, "within", x.within(h, 2), m.ghostsIn(h));
            same(check, x, "weddingSet", x.weddingSet(h), m.wedding(h));
            same(check, x, "wedding", x.wedding(h), m.wedding(h) < 0 ? -1 : Integer.bitCount(m.wedding(h)));
        }
        same(check, x, "crowd", x.crowd(), crowd);
    }

    private static void askAhead(SorryWalk x, Model m) {
        Model[] then = new Model[100];
        then[0] = m;
        for (int k = 1; k < 100; k++) {
            then[k] = then[k - 1].nights(1);
        }
        int nights = upTo(4) == 0 ? upTo(100) : upTo(12);
        int[] busy = new int[7];
        for (int h = 0; h < m.houses; h++) {
            int quiet = -1;
            int harvest = -1;
            int visitors = m.ghostsIn(h);
            int labour = m.labour[h] + upTo(9);
            for (int k = 99; k >= 0; k--) {
                quiet = then[k].ghostsIn(h) == 0 ? k : quiet;
                harvest = then[k].labour[h] >= labour ? k : harvest;
                visitors |= k <= nights ? then[k].ghostsIn(h) : 0;
                busy[h] += k >= 1 && k <= nights ? Integer.bitCount(then[k].ghostsIn(h)) : 0;
            }
            same(check, x, "quiet", x.quiet(h), quiet);
            if (harvest >= 0) {
                check.gives(x, "harvest", x.harvest(h, labour), harvest);
            }
            check.gives(x, "visitors", x.visitors(h, nights), visitors);
            check.gives(x, "wells", x.wells(h, nights), then[nights].labour[h]);
        }
        int busiest = -1;
        for (int h = 0; h < m.houses; h++) {
            busiest = busy[h] > (busiest < 0 ? 0 : busy[busiest]) ? h : busiest;
        }
        if (nights > 0) {
            same(check, x, "busiest", x.busiest(nights), busiest);
        }
        askPersonsAhead(x, m, then, nights);
    }

    private static void askPersonsAhead(SorryWalk x, Model m, Model[] then, int nights) {
        for (int p = 0; p < m.persons; p++) {
            int rest = -1;
            int[] stays = new int[7];
            int tours = 0;
            int[] meets = new int[8];
            java.util.Arrays.fill(meets, -1);
            for (int k = 99; k >= 0; k--) {
                rest = then[k].ghost(p) ? rest : k;
                stays[then[k].at[p]] += k >= 1 && k <= nights ? 1 : 0;
                tours |= k <= nights ? 1 << then[k].at[p] : 0;
                for (int q = 0; q < m.persons; q++) {
                    meets[q] = then[k].at[q] == then[k].at[p] ? k : meets[q];
                }
            }
            if (rest >= 0) {
                check.gives(x, "rest", x.rest(p), rest);
            }
            check.gives(x, "walks", x.walks(p, nights), then[nights].at[p]);
            check.gives(x, "later", x.later(p, nights), then[nights].owesAll(p));
            check.gives(x, "tours", x.tours(p, nights), Integer.bitCount(tours));
            for (int h = 0; h < m.houses; h++) {
                check.gives(x, "stays", x.stays(p, h, nights), stays[h]);
            }
            for (int q = 0; q < m.persons; q++) {
                if (p != q) {
                    same(check, x, "meets", x.meets(p, q), meets[q]);
                }
            }
        }
    }

    private static void askPlans(SorryWalk x, Model m) {
        int saint = -1;
        int keeper = -1;
        int keeperLabour = -1;
        for (int p = 0; p < m.persons; p++) {
            check.gives(x, "circle", x.circle(p), m.circle(p) ? 1 : 0);
            check.gives(x, "net", x.net(p), m.owesAll(p) - m.owedAll(p));
            if (!m.dead[p]) {
                check.gives(x, "loss", x.loss(p), m.sorrow() - m.without(p).sorrow());
                saint = saint < 0 || m.without(p).sorrow() < m.without(saint).sorrow() ? p : saint;
                if (!m.keeps[p]) {
                    Model then = m.copy();
                    then.keeps[p] = true;
                    int sum = java.util.Arrays.stream(then.nights(20).labour).sum();
                    keeper = sum > keeperLabour ? p : keeper;
                    keeperLabour = Math.max(keeperLabour, sum);
                }
                for (int q = 0; q < m.persons; q++) {
                    if (q != p) {
                        int set = 0;
                        for (int h : m.heirsOf(q, p)) {
                            set |= 1 << h;
                            check.gives(x, "share", x.share(q, p, h), m.share(q, p, h));
                        }
                        check.gives(x, "heirs", x.heirs(q, p), set);
                    }
                }
            }
        }
        same(check, x, "saint", x.saint(), saint);
        same(check, x, "keeper", x.keeper(), keeper);
        check.gives(x, "chain", x.chain(), m.chain());
        same(check, x, "bestSalt", x.bestSalt(), m.bestSalt());
        int house = upTo(m.houses);
        int nights = 1 + upTo(upTo(3) == 0 ? 20 : 4);
        int set = m.pardon(house, nights);
        same(check, x, "pardonSet", x.pardonSet(house, nights), set);
        same(check, x, "pardon", x.pardon(house, nights), set < 0 ? -1 : Integer.bitCount(set));
    }

    private static Model doSomething(SorryWalk x, Model m) {
        int p = upTo(m.persons);
        int q = upTo(m.persons);
        int h = upTo(m.houses);
        int g = upTo(m.houses);
        switch (upTo(8)) {
            case 0:
                if (x.die(p) >= 0) {
                    return m.without(p);
                }
                check.due("it was DEAD", m.dead[p], true);
                break;
            case 1:
                if (x.forge(p, q, 5) >= 0) {
                    m.owes[p][q] = Math.min(99, m.owes[p][q] + 5);
                }
                break;
            case 2:
                if (x.forgive(p, q) >= 0) {
                    m.owes[q][p] = 0;
                }
                break;
            case 3:
                check.yes(x, "salt", x.salt(h, !m.salt[h]));
                m.salt[h] = !m.salt[h];
                break;
            case 4:
                if (h != g) {
                    check.yes(x, "wall", x.wall(h, g, !m.door[h][g]));
                    m.door[h][g] = !m.door[h][g];
                    m.door[g][h] = m.door[h][g];
                }
                break;
            case 5:
                if (x.move(p, h)) {
                    m.at[p] = h;
                    m.home[p] = h;
                }
                break;
            default:
                int many = 1 + upTo(6);
                check.gives(x, "night", x.night(many), m.night + many);
                return m.nights(many);
        }
        return m;
    }

    private static final int[] ODD = {Integer.MIN_VALUE, Integer.MAX_VALUE, -1, -2, 7, 8, 9, 60, 61, 99, 100, 999, 1000, 9999, 10000};

    private static int any() {
        return upTo(5) == 0 ? ODD[upTo(ODD.length)] : upTo(8);
    }

    /** Whatever is called, in whatever order: it ends without an exception. */
    private static void anyCalls() {
        SorryWalk x = new SorryWalk();
        try {
            java.lang.reflect.Method[] all = SorryWalk.class.getMethods();
            java.util.Arrays.sort(all, java.util.Comparator.comparing(Object::toString));
            Texts.land(x, someLand().text());
            for (int k = 0; k < 400; k++) {
                java.lang.reflect.Method call = all[upTo(all.length)];
                if (call.getDeclaringClass() != SorryWalk.class) {
                    continue;
                }
                if (upTo(20) == 0) {
                    Texts.tales(x, "loop 9;any;night 3;when labour a>2;forge p to q 9;end;salt b;when at p in a;sweep a;end;end;");
                }
                Object[] with = new Object[call.getParameterCount()];
                for (int i = 0; i < with.length; i++) {
                    Class<?> type = call.getParameterTypes()[i];
                    with[i] = type == boolean.class ? (Object) random.nextBoolean() : type == long.class ? (Object) random.nextLong() : (Object) any();
                }
                Object got = call.invoke(x, with);
                int status = x.status();
                boolean hasStatus = !"status top bottom feed fault".contains(call.getName());
                if (hasStatus && status != 0) {
                    check.due(call + " with STATUS " + status, got instanceof Boolean b ? (b ? 1 : -1) : ((Number) got).longValue(), -1);
                }
            }
        } catch (ReflectiveOperationException e) {
            e.printStackTrace(System.out);
            check.due("an exception", 1, 0);
        }
    }
}
