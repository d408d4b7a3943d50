import java.util.ArrayDeque;
import java.util.ArrayList;
import java.util.List;
import java.util.TreeSet;

/**
 * The LAND once more, written as slowly and plainly as the document tells it, to compare with:
 * each WAY is searched anew, each set and each row tried.
 */
final class Model {
    int houses;
    int persons;
    boolean[] salt = new boolean[7];
    boolean[][] door = new boolean[7][7];
    int[] at = new int[8];
    int[] home = new int[8];
    boolean[] dead = new boolean[8];
    boolean[] deaf = new boolean[8];
    boolean[] keeps = new boolean[8];
    int[][] owes = new int[8][8];
    List<List<Integer>> heirs = new ArrayList<>();
    int night;
    int said;
    int[] labour = new int[7];

    Model() {
        for (int p = 0; p < 8; p++) {
            heirs.add(new ArrayList<>());
        }
    }

    Model copy() {
        Model m = new Model();
        m.houses = houses;
        m.persons = persons;
        m.salt = salt.clone();
        for (int h = 0; h < 7; h++) {
            m.door[h] = door[h].clone();
        }
        m.at = at.clone();
        m.home = home.clone();
        m.dead = dead.clone();
        m.deaf = deaf.clone();
        m.keeps = keeps.clone();
        for (int p = 0; p < 8; p++) {
            m.owes[p] = owes[p].clone();
            m.heirs.get(p).addAll(heirs.get(p));
        }
        m.night = night;
        m.said = said;
        m.labour = labour.clone();
        return m;
    }

    String text() {
        StringBuilder b = new StringBuilder();
        for (int h = 0; h < houses; h++) {
            b.append("house ").append((char) ('a' + h)).append(salt[h] ? " salt;" : ";");
        }
        for (int h = 0; h < houses; h++) {
            for (int g = 0; g < h; g++) {
                if (door[h][g]) {
                    b.append("door ").append((char) ('a' + h)).append(' ').append((char) ('a' + g)).append(';');
                }
            }
        }
        for (int p = 0; p < persons; p++) {
            b.append("person ").append(name(p)).append(" in ").append((char) ('a' + at[p]));
            b.append(dead[p] ? " dead" : "").append(deaf[p] ? " deaf" : "").append(keeps[p] ? " keeps;" : ";");
        }
        for (int p = 0; p < persons; p++) {
            for (int q = 0; q < persons; q++) {
                if (owes[p][q] > 0) {
                    b.append("owes ").append(name(p)).append(' ').append(name(q)).append(' ').append(owes[p][q]).append(';');
                }
            }
            for (int h : heirs.get(p)) {
                b.append("heir ").append(name(p)).append(' ').append(name(h)).append(';');
            }
        }
        return b.toString();
    }

    static char name(int p) {
        return (char) ('p' + p);
    }

    int owesAll(int p) {
        int sum = 0;
        for (int v : owes[p]) {
            sum += v;
        }
        return sum;
    }

    int owedAll(int p) {
        int sum = 0;
        for (int[] row : owes) {
            sum += row[p];
        }
        return sum;
    }

    int sorrow() {
        int sum = 0;
        for (int p = 0; p < persons; p++) {
            sum += owesAll(p);
        }
        return sum;
    }

    boolean ghost(int p) {
        return dead[p] && owesAll(p) > 0;
    }

    /** The number of DOORS, or -1. */
    int way(int from, int to) {
        int[] length = new int[7];
        java.util.Arrays.fill(length, -1);
        length[from] = 0;
        ArrayDeque<Integer> queue = new ArrayDeque<>();
        queue.add(from);
        while (!queue.isEmpty()) {
            int h = queue.remove();
            for (int g = 0; g < houses; g++) {
                if (door[h][g] && !salt[g] && length[g] < 0) {
                    length[g] = length[h] + 1;
                    queue.add(g);
                }
            }
        }
        return length[to];
    }

    int aim(int p) {
        int best = -1;
        for (int q = 0; q < persons; q++) {
            int length = way(at[p], at[q]);
            if (owes[p][q] > 0 && length >= 0 && (best < 0 || length < way(at[p], at[best]))) {
                best = q;
            }
        }
        return best;
    }

    int step(int p) {
        int aim = aim(p);
        if (aim < 0 || at[aim] == at[p]) {
            return at[p];
        }
        for (int h = 0; h < houses; h++) {
            if (door[at[p]][h] && !salt[h] && way(h, at[aim]) == way(at[p], at[aim]) - 1) {
                return h;
            }
        }
        throw new IllegalStateException("no DOOR of a WAY");
    }

    Model nights(int many) {
        Model m = copy();
        for (int k = 0; k < many; k++) {
            m.passNight();
        }
        return m;
    }

    void passNight() {
        night++;
        for (int p = 0; p < persons; p++) {
            int aim = ghost(p) ? aim(p) : -1;
            if (aim < 0) {
                continue;
            }
            if (at[aim] != at[p]) {
                at[p] = step(p);
                continue;
            }
            said++;
            if (dead[aim] && owes[aim][p] > 0) {
                owes[aim][p] = 0;
                owes[p][aim] = 0;
            } else if (dead[aim]) {
                owes[p][aim]--;
            } else if (keeps[aim]) {
                labour[at[p]] = Math.min(9999, labour[at[p]] + 1);
            } else if (!deaf[aim] || night % 2 != 0) {
                owes[p][aim]--;
            }
        }
    }

    List<Integer> heirsOf(int debtor, int owed) {
        List<Integer> list = new ArrayList<>();
        for (int h : heirs.get(owed)) {
            if (!dead[h] && h != debtor) {
                list.add(h);
            }
        }
        return list;
    }

    int share(int debtor, int owed, int heir) {
        List<Integer> list = heirsOf(debtor, owed);
        int rest = owes[debtor][owed];
        for (int k = 1; k < list.size(); k++) {
            rest -= owes[debtor][owed] / 3;
        }
        return list.get(0) == heir ? rest : owes[debtor][owed] / 3;
    }

    Model without(int p) {
        Model m = copy();
        m.dead[p] = true;
        for (int d = 0; d < persons; d++) {
            for (int h : heirsOf(d, p)) {
                m.owes[d][h] = Math.min(99, m.owes[d][h] + share(d, p, h));
            }
            m.owes[d][p] = 0;
        }
        return m;
    }

    int ghostsIn(int house) {
        int set = 0;
        for (int p = 0; p < persons; p++) {
            if (ghost(p) && at[p] == house) {
                set |= 1 << p;
            }
        }
        return set;
    }

    int reach(int from) {
        int set = 0;
        for (int h = 0; h < houses; h++) {
            if (way(from, h) >= 0) {
                set |= 1 << h;
            }
        }
        return set;
    }

    /** All WAYS without a HOUSE twice, as sets of HOUSES, behind each the number of DOORS. */
    List<int[]> allWays(int from, int to) {
        List<int[]> found = new ArrayList<>();
        collect(from, to, 1 << from, 0, found);
        return found;
    }

    private void collect(int here, int to, int seen, int length, List<int[]> found) {
        if (here == to) {
            found.add(new int[] {seen, length});
            return;
        }
        for (int h = 0; h < houses; h++) {
            if (door[here][h] && !salt[h] && (seen >> h & 1) == 0) {
                collect(h, to, seen | 1 << h, length + 1, found);
            }
        }
    }

    int wedding(int house) {
        int best = -1;
        for (int set = 0; set < 1 << houses; set++) {
            Model m = copy();
            boolean fits = (set >> house & 1) == 0;
            for (int h = 0; h < houses; h++) {
                if ((set >> h & 1) == 1) {
                    fits &= !salt[h];
                    m.salt[h] = true;
                }
            }
            for (int p = 0; p < persons; p++) {
                fits &= !ghost(p) || at[p] == house || m.way(at[p], house) < 0;
            }
            if (fits && (best < 0 || Integer.bitCount(set) < Integer.bitCount(best))) {
                best = set;
            }
        }
        return best;
    }

    int pardon(int house, int nights) {
        int best = -1;
        for (int set = 0; set < 1 << persons; set++) {
            Model m = copy();
            boolean fits = true;
            for (int p = 0; p < persons; p++) {
                if ((set >> p & 1) == 1) {
                    fits &= !dead[p];
                    for (int q = 0; q < persons; q++) {
                        m.owes[q][p] = 0;
                    }
                }
            }
            if (fits && (best < 0 || Integer.bitCount(set) < Integer.bitCount(best)) && m.nights(nights).ghostsIn(house) == 0) {
                best = set;
            }
        }
        return best;
    }

    int chain() {
        int longest = 0;
        for (int p = 0; p < persons; p++) {
            longest = Math.max(longest, chainFrom(p, 1 << p));
        }
        return longest;
    }

    private int chainFrom(int p, int seen) {
        int longest = Integer.bitCount(seen);
        for (int q = 0; q < persons; q++) {
            if (owes[p][q] > 0 && (seen >> q & 1) == 0) {
                longest = Math.max(longest, chainFrom(q, seen | 1 << q));
            }
        }
        return longest;
    }

    boolean circle(int person) {
        TreeSet<Integer> seen = new TreeSet<>();
        ArrayDeque<Integer> queue = new ArrayDeque<>();
        queue.add(person);
        while (!queue.isEmpty()) {
            int p = queue.remove();
            for (int q = 0; q < persons; q++) {
                if (owes[p][q] > 0 && seen.add(q)) {
                    queue.add(q);
                }
            }
        }
        return seen.contains(person);
    }

    int bestSalt() {
        int best = -1;
        int most = -1;
        for (int h = 0; h < houses; h++) {
            if (!salt[h]) {
                Model m = copy();
                m.salt[h] = true;
                int many = 0;
                for (int p = 0; p < persons; p++) {
                    many += ghost(p) && m.aim(p) < 0 ? 1 : 0;
                }
                if (many > most) {
                    most = many;
                    best = h;
                }
            }
        }
        return best;
    }
}
