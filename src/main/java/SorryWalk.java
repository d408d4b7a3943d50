import java.util.Arrays;

/**
 * A land in which whoever dies owing a sorry must walk till he has said it.
 * The words in capitals are those of the document (DOC.md); promises are named by its numbers.
 */
public final class SorryWalk {
    public static final int NONE = -1;

    private static final int MAX_TRAYS = 4;
    private static final int MAX_SORT = 3;
    private static final int MAX_CELLS = 60;
    private static final int MAX_TAPE = 900;
    private static final int MAX_TALES_BYTES = 300;
    private static final int MAX_HOUSES = 7;
    private static final int MAX_PERSONS = 8;
    private static final int MAX_HEIRS = 3;
    private static final int MAX_OWED = 99;
    private static final int MAX_NIGHT = 9999;
    private static final int MAX_LABOUR = 9999;
    private static final int MAX_SEED = 9999;
    private static final int MAX_NAME = 8;
    private static final int MAX_DIGITS = 4;
    private static final int MAX_STEPS = 30;
    private static final int MAX_STEPS_DONE = 300;
    private static final int MAX_NESTED = 3;
    private static final int MAX_MARKS = 3;
    private static final int FAR_NIGHTS = 999;
    private static final int NEAR_NIGHTS = 99;
    private static final int KEEPER_NIGHTS = 20;
    private static final int PARDON_NIGHTS = 20;
    private static final int MEAN_SEEDS = 20;
    /** Far above the steps and ends that TALES can come to. */
    private static final int ENDLESS = 1000000;

    private static final int OK = 0;
    private static final int BAD_NUMBER = 1;
    private static final int MISSING = 2;
    private static final int NO_PLACE = 3;
    private static final int TOO_MANY = 4;
    private static final int NONE_SUCH = 6;
    private static final int CANNOT_BE = 7;
    private static final int UNLIKE = 8;
    private static final int FAULTY = 9;

    private static final int FAULT_TOKEN = 1;
    private static final int FAULT_STAND = 2;
    private static final int FAULT_NAME = 3;
    private static final int FAULT_NUMBER = 4;
    private static final int FAULT_TWICE = 5;
    private static final int FAULT_MANY = 6;
    private static final int FAULT_DEEP = 7;

    /** The words that are no NAMES; a word's number is its place in this row. */
    private static final String KEYWORDS =
        "house salt door person in dead deaf keeps owes heir night die forgive sweep forge to any when labour rest at loop end stop ";
    private static final int KEYWORD_COUNT = 24;
    private static final int HOUSE = 0;
    private static final int SALT = 1;
    private static final int DOOR = 2;
    private static final int PERSON = 3;
    private static final int IN = 4;
    private static final int DEAD = 5;
    private static final int DEAF = 6;
    private static final int KEEPS = 7;
    private static final int OWES = 8;
    private static final int HEIR = 9;
    private static final int NIGHT = 10;
    private static final int DIE = 11;
    private static final int FORGIVE = 12;
    private static final int SWEEP = 13;
    private static final int FORGE = 14;
    private static final int TO = 15;
    private static final int ANY = 16;
    private static final int WHEN = 17;
    private static final int LABOUR = 18;
    private static final int REST = 19;
    private static final int AT = 20;
    private static final int LOOP = 21;
    private static final int END = 22;
    private static final int STOP = 23;

    private int status = OK;
    private long top = 0;
    private long bottom = 1;
    private final Tray[] trays = new Tray[MAX_TRAYS];
    private final Tape tape = new Tape();
    private final Land now = new Land();
    private final Tales tales = new Tales();
    private final Land draft = new Land();
    private final Tales draftTales = new Tales();
    private final LandReader landReader = new LandReader(tape, draft);
    private final TalesReader talesReader = new TalesReader(tape, now, draftTales);
    private final Seer seer = new Seer();
    private final Planner planner = new Planner();
    private final Life life = new Life();
    private final Life trial = new Life();
    private final Land[] markedLands = new Land[MAX_MARKS];
    private final Tales[] markedTales = new Tales[MAX_MARKS];
    private int marks = 0;

    public SorryWalk() {
        for (int k = 0; k < MAX_TRAYS; k++) {
            trays[k] = new Tray();
        }
        for (int k = 0; k < MAX_MARKS; k++) {
            markedLands[k] = new Land();
            markedTales[k] = new Tales();
        }
    }

    public int status() {
        return status;
    }

    public long top() {
        return top;
    }

    public long bottom() {
        return bottom;
    }

    // ---- TRAYS

    public boolean tray(int tray, int sort, int many) {
        if (!isWithin(tray, MAX_TRAYS - 1) || !isWithin(sort, MAX_SORT) || !isWithin(many, MAX_CELLS)) {
            return deny(BAD_NUMBER);
        }
        trays[tray].lay(sort, many);
        return grant();
    }

    public boolean write(int tray, int place, long v) {
        int trouble = troubleAt(tray, place);
        if (trouble != OK) {
            return deny(trouble);
        }
        trays[tray].put(place, v);
        return grant();
    }

    public long read(int tray, int place) {
        int trouble = troubleAt(tray, place);
        if (trouble != OK) {
            return refuse(trouble);
        }
        status = OK;
        return trays[tray].cells[place];
    }

    public boolean pour(int from, int place, int to, int at, int many) {
        boolean trayNumbers = isWithin(from, MAX_TRAYS - 1) && isWithin(to, MAX_TRAYS - 1);
        if (!trayNumbers || place < 0 || at < 0 || many < 0) {
            return deny(BAD_NUMBER);
        }
        Tray source = trays[from];
        Tray target = trays[to];
        if (!source.there || !target.there) {
            return deny(MISSING);
        }
        if (source.sort != target.sort) {
            return deny(UNLIKE);
        }
        if (!source.holds(place, many) || !target.holds(at, many)) {
            return deny(NO_PLACE);
        }
        System.arraycopy(source.cells, place, target.cells, at, many);
        return grant();
    }

    // ---- texts

    public int feed(int a, int b, int c, int d, int e) {
        if (tape.length + 20 > MAX_TAPE) {
            return NONE;
        }
        tape.put(a);
        tape.put(b);
        tape.put(c);
        tape.put(d);
        tape.put(e);
        return tape.length;
    }

    public int land(int n) {
        if (!isWithin(n, tape.length)) {
            return refuse(BAD_NUMBER);
        }
        landReader.readAll(n);
        tape.length = 0;
        if (tape.faultKind != 0) {
            return refuse(FAULTY);
        }
        now.copyFrom(draft);
        tales.clear();
        return answer(now.persons);
    }

    public int tales(int n) {
        if (!isWithin(n, tape.length) || n > MAX_TALES_BYTES) {
            return refuse(BAD_NUMBER);
        }
        talesReader.readAll(n);
        tape.length = 0;
        if (tape.faultKind != 0) {
            return refuse(FAULTY);
        }
        tales.copyFrom(draftTales);
        return answer(tales.steps);
    }

    public int fault(int what) {
        switch (what) {
            case 0: return tape.faultKind;
            case 1: return tape.faultPlace;
            default: return NONE;
        }
    }

    public int told(int what) {
        switch (what) {
            case 0: return answer(now.roads.houses);
            case 1: return answer(now.persons);
            case 2: return answer(now.roads.couples());
            case 3: return answer(now.night);
            case 4: return answer(now.said);
            case 5: return answer(now.debts.sorrow());
            case 6: return answer(now.roads.salt);
            case 7: return answer(now.dead);
            case 8: return answer(now.ghosts());
            case 9: return answer(now.keeps);
            default: return refuse(BAD_NUMBER);
        }
    }

    public int person(int person, int what) {
        if (!isPerson(person)) {
            return refuse(BAD_NUMBER);
        }
        switch (what) {
            case 0: return answer(now.at[person]);
            case 1: return answer(now.home[person]);
            case 2: return answer(bit(now.dead, person));
            case 3: return answer(bit(now.deaf, person));
            case 4: return answer(bit(now.keeps, person));
            case 5: return answer(now.debts.total[person]);
            case 6: return answer(now.debts.claimOf(person));
            default: return refuse(BAD_NUMBER);
        }
    }

    public int owed(int a, int b) {
        if (!areTwoPersons(a, b)) {
            return refuse(BAD_NUMBER);
        }
        return answer(now.debts.of(a, b));
    }

    public int heir(int person, int k) {
        if (!isPerson(person) || k < 0) {
            return refuse(BAD_NUMBER);
        }
        if (k >= now.heirCounts[person]) {
            return refuse(NONE_SUCH);
        }
        return answer(now.heirs[person * MAX_HEIRS + k]);
    }

    public int door(int a, int b) {
        if (!areTwoHouses(a, b)) {
            return refuse(BAD_NUMBER);
        }
        return answer(bit(now.roads.doors[a], b));
    }

    public int labour(int house) {
        if (!isHouse(house)) {
            return refuse(BAD_NUMBER);
        }
        return answer(now.labour[house]);
    }

    public int within(int house, int what) {
        if (!isHouse(house)) {
            return refuse(BAD_NUMBER);
        }
        int all = now.inHouse(house);
        switch (what) {
            case 0: return answer(all);
            case 1: return answer(all & ~now.dead);
            case 2: return answer(all & now.ghosts());
            default: return refuse(BAD_NUMBER);
        }
    }

    // ---- what is done

    public int night(int many) {
        if (many < 1 || many > NEAR_NIGHTS) {
            return refuse(BAD_NUMBER);
        }
        if (now.night + many > MAX_NIGHT) {
            return refuse(TOO_MANY);
        }
        now.passNights(many);
        return answer(now.night);
    }

    public int die(int person) {
        if (!isPerson(person)) {
            return refuse(BAD_NUMBER);
        }
        if (!now.bury(person)) {
            return refuse(CANNOT_BE);
        }
        return answer(now.debts.sorrow());
    }

    public int forgive(int person, int other) {
        if (!areTwoPersons(person, other)) {
            return refuse(BAD_NUMBER);
        }
        int many = now.debts.of(other, person);
        if (!now.remit(person, other)) {
            return refuse(CANNOT_BE);
        }
        return answer(many);
    }

    public int forge(int dead, int living, int many) {
        if (!areTwoPersons(dead, living) || many < 1 || many > MAX_OWED) {
            return refuse(BAD_NUMBER);
        }
        if (!now.slander(dead, living, many)) {
            return refuse(CANNOT_BE);
        }
        return answer(now.debts.of(dead, living));
    }

    public boolean salt(int house, boolean is) {
        if (!isHouse(house)) {
            return deny(BAD_NUMBER);
        }
        return now.roads.strew(house, is) ? grant() : deny(CANNOT_BE);
    }

    public boolean keep(int person, boolean is) {
        if (!isPerson(person)) {
            return deny(BAD_NUMBER);
        }
        if (has(now.keeps, person) == is) {
            return deny(CANNOT_BE);
        }
        now.keeps ^= 1 << person;
        return grant();
    }

    public boolean wall(int a, int b, boolean door) {
        if (!areTwoHouses(a, b)) {
            return deny(BAD_NUMBER);
        }
        if (has(now.roads.doors[a], b) == door) {
            return deny(CANNOT_BE);
        }
        now.roads.hang(a, b, door);
        now.roads.survey();
        return grant();
    }

    public boolean move(int person, int house) {
        if (!isPerson(person) || !isHouse(house)) {
            return deny(BAD_NUMBER);
        }
        if (now.isDead(person) || now.at[person] == house) {
            return deny(CANNOT_BE);
        }
        now.at[person] = house;
        now.home[person] = house;
        return grant();
    }

    // ---- who walks where

    public int way(int person, int house) {
        if (!isPerson(person) || !isHouse(house)) {
            return refuse(BAD_NUMBER);
        }
        return answerOrNone(now.roads.distance(now.at[person], house));
    }

    public int aim(int person) {
        if (!isPerson(person)) {
            return refuse(BAD_NUMBER);
        }
        return answerOrNone(now.isGhost(person) ? now.aimOf(person) : NONE);
    }

    public int step(int person) {
        if (!isPerson(person)) {
            return refuse(BAD_NUMBER);
        }
        return answer(now.nextStop(person));
    }

    public int walks(int person, int nights) {
        if (!isPerson(person) || !isWithin(nights, FAR_NIGHTS)) {
            return refuse(BAD_NUMBER);
        }
        return answer(seer.after(now, nights).at[person]);
    }

    public int later(int person, int nights) {
        if (!isPerson(person) || !isWithin(nights, FAR_NIGHTS)) {
            return refuse(BAD_NUMBER);
        }
        return answer(seer.after(now, nights).debts.total[person]);
    }

    public int rest(int person) {
        if (!isPerson(person)) {
            return refuse(BAD_NUMBER);
        }
        return answerOrNone(seer.nightsToRest(now, person));
    }

    public int quiet(int house) {
        if (!isHouse(house)) {
            return refuse(BAD_NUMBER);
        }
        return answerOrNone(seer.nightsToQuiet(now, house));
    }

    public int harvest(int house, int labour) {
        if (!isHouse(house) || !isWithin(labour, MAX_LABOUR)) {
            return refuse(BAD_NUMBER);
        }
        return answerOrNone(seer.nightsToLabour(now, house, labour));
    }

    public int visitors(int house, int nights) {
        if (!isHouse(house) || !isWithin(nights, NEAR_NIGHTS)) {
            return refuse(BAD_NUMBER);
        }
        return answer(seer.ghostsSeen(now, house, nights));
    }

    public int stays(int person, int house, int nights) {
        if (!isPerson(person) || !isHouse(house) || !isWithin(nights, NEAR_NIGHTS)) {
            return refuse(BAD_NUMBER);
        }
        return answer(seer.nightsSpent(now, person, house, nights));
    }

    public int must(int person, int house) {
        if (!isPerson(person) || !isHouse(house)) {
            return refuse(BAD_NUMBER);
        }
        return answerOrNone(now.roads.straits(now.at[person], house));
    }

    public int reach(int person) {
        if (!isPerson(person)) {
            return refuse(BAD_NUMBER);
        }
        return answer(now.roads.spread(1 << now.at[person], now.roads.salt));
    }

    public int tours(int person, int nights) {
        if (!isPerson(person) || !isWithin(nights, NEAR_NIGHTS)) {
            return refuse(BAD_NUMBER);
        }
        return answer(Integer.bitCount(seer.housesSeen(now, person, nights)));
    }

    public int meets(int a, int b) {
        if (!areTwoPersons(a, b)) {
            return refuse(BAD_NUMBER);
        }
        return answerOrNone(seer.nightsToMeeting(now, a, b));
    }

    public int crowd() {
        return answerOrNone(seer.fullestHouse(now, 0));
    }

    public int busiest(int nights) {
        if (nights < 1 || nights > NEAR_NIGHTS) {
            return refuse(BAD_NUMBER);
        }
        return answerOrNone(seer.fullestHouse(now, nights));
    }

    public int exposed() {
        return answer(now.roads.spread(now.ghostHouses(), now.roads.salt));
    }

    public int wells(int house, int nights) {
        if (!isHouse(house) || !isWithin(nights, FAR_NIGHTS)) {
            return refuse(BAD_NUMBER);
        }
        return answer(seer.after(now, nights).labour[house]);
    }

    public int ways(int person, int house) {
        if (!isPerson(person) || !isHouse(house)) {
            return refuse(BAD_NUMBER);
        }
        int many = now.roads.shortestWays(now.at[person], house);
        return many == 0 ? refuse(NONE_SUCH) : answer(many);
    }

    // ---- plans

    public int heirs(int debtor, int owed) {
        if (!areTwoPersons(debtor, owed)) {
            return refuse(BAD_NUMBER);
        }
        if (now.isDead(owed)) {
            return refuse(CANNOT_BE);
        }
        return answer(now.heirSet(debtor, owed));
    }

    public int loss(int person) {
        if (!isPerson(person)) {
            return refuse(BAD_NUMBER);
        }
        if (now.isDead(person)) {
            return refuse(CANNOT_BE);
        }
        return answer(now.debts.sorrow() - planner.sorrowWithout(now, person));
    }

    public int saint() {
        return answerOrNone(planner.bestDeath(now));
    }

    public int keeper() {
        return answerOrNone(planner.bestKeeper(now));
    }

    public int lonely() {
        int set = 0;
        for (int p = 0; p < now.persons; p++) {
            if (now.debts.total[p] == 0 && now.debts.claimOf(p) == 0) {
                set |= 1 << p;
            }
        }
        return answer(set);
    }

    public int due(int house) {
        if (!isHouse(house)) {
            return refuse(BAD_NUMBER);
        }
        int sum = 0;
        for (int p = 0; p < now.persons; p++) {
            if (now.at[p] == house && !now.isDead(p)) {
                sum += now.debts.claimOf(p);
            }
        }
        return answer(sum);
    }

    public int net(int person) {
        if (!isPerson(person)) {
            return refuse(BAD_NUMBER);
        }
        return answer(now.debts.total[person] - now.debts.claimOf(person));
    }

    public int wedding(int house) {
        if (!isHouse(house)) {
            return refuse(BAD_NUMBER);
        }
        return answerSize(planner.leastSalt(now, house));
    }

    public int weddingSet(int house) {
        if (!isHouse(house)) {
            return refuse(BAD_NUMBER);
        }
        return answerOrNone(planner.leastSalt(now, house));
    }

    public int pardon(int house, int nights) {
        if (!isHouse(house) || nights < 1 || nights > PARDON_NIGHTS) {
            return refuse(BAD_NUMBER);
        }
        return answerSize(planner.leastPardon(now, house, nights));
    }

    public int pardonSet(int house, int nights) {
        if (!isHouse(house) || nights < 1 || nights > PARDON_NIGHTS) {
            return refuse(BAD_NUMBER);
        }
        return answerOrNone(planner.leastPardon(now, house, nights));
    }

    public int pair(int what) {
        if (!isWithin(what, 2)) {
            return refuse(BAD_NUMBER);
        }
        int couple = planner.deadCouple(now);
        if (couple == NONE) {
            return refuse(NONE_SUCH);
        }
        int first = couple / MAX_PERSONS;
        int second = couple % MAX_PERSONS;
        switch (what) {
            case 0: return answer(first);
            case 1: return answer(second);
            default: return answer(now.debts.of(first, second) + now.debts.of(second, first));
        }
    }

    public int share(int debtor, int owed, int heir) {
        if (!areTwoPersons(debtor, owed) || !isPerson(heir)) {
            return refuse(BAD_NUMBER);
        }
        if (now.isDead(owed)) {
            return refuse(CANNOT_BE);
        }
        int set = now.heirSet(debtor, owed);
        if (!has(set, heir)) {
            return refuse(NONE_SUCH);
        }
        return answer(now.shareOf(debtor, owed, heir, set));
    }

    public int gracious() {
        int best = NONE;
        int most = 0;
        for (int p = 0; p < now.persons; p++) {
            int claim = now.isDead(p) ? 0 : now.debts.claimOf(p);
            if (claim > most) {
                most = claim;
                best = p;
            }
        }
        return answerOrNone(best);
    }

    public int deepest() {
        int best = NONE;
        int most = 0;
        for (int p = 0; p < now.persons; p++) {
            if (now.debts.total[p] > most) {
                most = now.debts.total[p];
                best = p;
            }
        }
        return answerOrNone(best);
    }

    public boolean weight() {
        int sorrow = now.debts.sorrow();
        if (sorrow == 0) {
            return deny(NONE_SUCH);
        }
        int ofDead = 0;
        for (int p = 0; p < now.persons; p++) {
            if (now.isDead(p)) {
                ofDead += now.debts.total[p];
            }
        }
        tellFraction(ofDead, sorrow);
        return grant();
    }

    public int mutual() {
        int couples = 0;
        for (int a = 0; a < now.persons; a++) {
            for (int b = a + 1; b < now.persons; b++) {
                if (now.debts.isMutual(a, b)) {
                    couples++;
                }
            }
        }
        return answer(couples);
    }

    public int chain() {
        return answer(planner.longestRow(now));
    }

    public int circle(int person) {
        if (!isPerson(person)) {
            return refuse(BAD_NUMBER);
        }
        int owing = now.debts.creditors(person);
        for (int k = 0; k < MAX_PERSONS; k++) {
            owing |= now.debts.creditorsOfAll(owing);
        }
        return answer(bit(owing, person));
    }

    public int bestSalt() {
        return answerOrNone(planner.bestThreshold(now));
    }

    // ---- TALES

    public int live(int seed) {
        if (!isWithin(seed, MAX_SEED)) {
            return refuse(BAD_NUMBER);
        }
        if (!tales.there) {
            return refuse(NONE_SUCH);
        }
        life.run(tales, now, seed);
        return answer(life.done);
    }

    public int lived(int what) {
        if (!isWithin(what, 4)) {
            return refuse(BAD_NUMBER);
        }
        if (!life.there) {
            return refuse(NONE_SUCH);
        }
        switch (what) {
            case 0: return answer(life.missed);
            case 1: return answer(life.nights);
            case 2: return answer(life.said);
            case 3: return answer(life.deaths);
            default: return answer(life.left);
        }
    }

    public boolean mean(int seed, int many) {
        if (!isWithin(seed, MAX_SEED) || many < 1 || many > MEAN_SEEDS || seed + many - 1 > MAX_SEED) {
            return deny(BAD_NUMBER);
        }
        if (!tales.there) {
            return deny(NONE_SUCH);
        }
        int sum = 0;
        for (int k = 0; k < many; k++) {
            Land dream = seer.after(now, 0);
            trial.run(tales, dream, seed + k);
            sum += dream.debts.sorrow();
        }
        tellFraction(sum, many);
        return grant();
    }

    // ---- MARKS

    public int mark() {
        if (marks >= MAX_MARKS) {
            return refuse(TOO_MANY);
        }
        markedLands[marks].copyFrom(now);
        markedTales[marks].copyFrom(tales);
        marks++;
        return answer(marks);
    }

    public int undo() {
        if (marks < 1) {
            return refuse(NONE_SUCH);
        }
        marks--;
        now.copyFrom(markedLands[marks]);
        tales.copyFrom(markedTales[marks]);
        return answer(marks);
    }

    // ---- answers and what they ask of numbers

    private int answer(int v) {
        status = OK;
        return v;
    }

    private int answerOrNone(int v) {
        return v == NONE ? refuse(NONE_SUCH) : answer(v);
    }

    private int answerSize(int set) {
        return set == NONE ? refuse(NONE_SUCH) : answer(Integer.bitCount(set));
    }

    private int refuse(int why) {
        status = why;
        return NONE;
    }

    private boolean grant() {
        status = OK;
        return true;
    }

    private boolean deny(int why) {
        status = why;
        return false;
    }

    private boolean isHouse(int house) {
        return house >= 0 && house < now.roads.houses;
    }

    private boolean isPerson(int person) {
        return person >= 0 && person < now.persons;
    }

    private boolean areTwoHouses(int a, int b) {
        return isHouse(a) && isHouse(b) && a != b;
    }

    private boolean areTwoPersons(int a, int b) {
        return isPerson(a) && isPerson(b) && a != b;
    }

    private static boolean isWithin(int v, int most) {
        return v >= 0 && v <= most;
    }

    private static boolean has(int set, int k) {
        return (set >> k & 1) == 1;
    }

    private static int bit(int set, int k) {
        return set >> k & 1;
    }

    private int troubleAt(int tray, int place) {
        if (!isWithin(tray, MAX_TRAYS - 1)) {
            return BAD_NUMBER;
        }
        if (!trays[tray].there) {
            return MISSING;
        }
        return trays[tray].holds(place, 1) ? OK : NO_PLACE;
    }

    private void tellFraction(int over, int under) {
        int a = over;
        int b = under;
        for (int k = 0; k < 64 && b != 0; k++) {
            int rest = a % b;
            a = b;
            b = rest;
        }
        if (a > 0) {
            top = over / a;
            bottom = under / a;
        }
    }

    /** A row of numbers; the cells are made once, so that laying it anew costs no room. */
    private static final class Tray {
        boolean there = false;
        int sort = 0;
        int size = 0;
        final long[] cells = new long[MAX_CELLS];

        void lay(int newSort, int newSize) {
            there = true;
            sort = newSort;
            size = newSize;
            Arrays.fill(cells, 0);
        }

        /** The places are tested by subtraction, since a sum could wrap around. */
        boolean holds(int place, int many) {
            return place >= 0 && many <= size && place <= size - many;
        }

        void put(int place, long v) {
            switch (sort) {
                case 0: cells[place] = (byte) v; break;
                case 1: cells[place] = (short) v; break;
                case 2: cells[place] = (int) v; break;
                default: cells[place] = v; break;
            }
        }
    }

    /** HOUSES, DOORS and SALT, with the lengths of all shortest WAYS, so that a NIGHT need not search. */
    private static final class Roads {
        int houses = 0;
        int salt = 0;
        final int[] doors = new int[MAX_HOUSES];
        final int[] lengths = new int[MAX_HOUSES * MAX_HOUSES];
        final int[] nexts = new int[MAX_HOUSES * MAX_HOUSES];
        final int[] counts = new int[MAX_HOUSES];

        void clear() {
            houses = 0;
            salt = 0;
            Arrays.fill(doors, 0);
        }

        void copyFrom(Roads other) {
            houses = other.houses;
            salt = other.salt;
            System.arraycopy(other.doors, 0, doors, 0, doors.length);
            System.arraycopy(other.lengths, 0, lengths, 0, lengths.length);
            System.arraycopy(other.nexts, 0, nexts, 0, nexts.length);
        }

        /** Leaves the WAYS as they were measured: who hangs a DOOR surveys behind the last one. */
        void hang(int a, int b, boolean is) {
            if (is) {
                doors[a] |= 1 << b;
                doors[b] |= 1 << a;
            } else {
                doors[a] &= ~(1 << b);
                doors[b] &= ~(1 << a);
            }
        }

        /** False if the threshold is so already. */
        boolean strew(int house, boolean is) {
            if (has(salt, house) == is) {
                return false;
            }
            salt ^= 1 << house;
            survey();
            return true;
        }

        int couples() {
            int ends = 0;
            for (int h = 0; h < houses; h++) {
                ends += Integer.bitCount(doors[h]);
            }
            return ends / 2;
        }

        int around(int set) {
            int found = 0;
            for (int h = 0; h < houses; h++) {
                if ((set >> h & 1) == 1) {
                    found |= doors[h];
                }
            }
            return found;
        }

        /** The HOUSES to which one comes from a set of them, going into none of those closed. */
        int spread(int from, int closed) {
            int reached = from;
            for (int k = 0; k < MAX_HOUSES; k++) {
                reached |= around(reached) & ~closed;
            }
            return reached;
        }

        void survey() {
            for (int from = 0; from < houses; from++) {
                measureFrom(from);
            }
            for (int from = 0; from < houses; from++) {
                for (int to = 0; to < houses; to++) {
                    nexts[from * MAX_HOUSES + to] = leastNext(from, to);
                }
            }
        }

        private void measureFrom(int from) {
            int edge = 1 << from;
            int seen = edge;
            for (int h = 0; h < houses; h++) {
                lengths[from * MAX_HOUSES + h] = NONE;
            }
            for (int length = 0; length < houses; length++) {
                for (int h = 0; h < houses; h++) {
                    if (has(edge, h)) {
                        lengths[from * MAX_HOUSES + h] = length;
                    }
                }
                edge = around(edge) & ~seen & ~salt;
                seen |= edge;
            }
        }

        private int leastNext(int from, int to) {
            int length = distance(from, to);
            for (int h = 0; h < houses && length > 0; h++) {
                if (has(doors[from] & ~salt, h) && distance(h, to) == length - 1) {
                    return h;
                }
            }
            return from;
        }

        int distance(int from, int to) {
            return lengths[from * MAX_HOUSES + to];
        }

        int nextHouse(int from, int to) {
            return nexts[from * MAX_HOUSES + to];
        }

        /** The HOUSES between that are on each WAY; NONE without a WAY. */
        int straits(int from, int to) {
            if (distance(from, to) == NONE) {
                return NONE;
            }
            int set = 0;
            for (int h = 0; h < houses; h++) {
                boolean between = h != from && h != to;
                if (between && !has(spread(1 << from, salt | 1 << h), to)) {
                    set |= 1 << h;
                }
            }
            return set;
        }

        /** How many shortest WAYS there are, counted outward length by length; 0 without a WAY. */
        int shortestWays(int from, int to) {
            Arrays.fill(counts, 0);
            counts[from] = 1;
            for (int length = 1; length < houses; length++) {
                for (int h = 0; h < houses; h++) {
                    if (distance(from, h) == length) {
                        counts[h] = waysInto(from, h, length);
                    }
                }
            }
            return counts[to];
        }

        private int waysInto(int from, int house, int length) {
            int sum = 0;
            for (int h = 0; h < houses; h++) {
                if (has(doors[house], h) && distance(from, h) == length - 1) {
                    sum += counts[h];
                }
            }
            return sum;
        }
    }

    /** Who owes whom how many, with the sum of each debtor at hand, since each NIGHT asks for GHOSTS. */
    private static final class Debts {
        final int[] owes = new int[MAX_PERSONS * MAX_PERSONS];
        final int[] total = new int[MAX_PERSONS];

        void clear() {
            Arrays.fill(owes, 0);
            Arrays.fill(total, 0);
        }

        void copyFrom(Debts other) {
            System.arraycopy(other.owes, 0, owes, 0, owes.length);
            System.arraycopy(other.total, 0, total, 0, total.length);
        }

        int of(int debtor, int owed) {
            return owes[debtor * MAX_PERSONS + owed];
        }

        void put(int debtor, int owed, int many) {
            int place = debtor * MAX_PERSONS + owed;
            total[debtor] += many - owes[place];
            owes[place] = many;
        }

        /** What it would be above 99 is lost. */
        void add(int debtor, int owed, int many) {
            int sum = of(debtor, owed) + many;
            put(debtor, owed, sum > MAX_OWED ? MAX_OWED : sum);
        }

        int claimOf(int owed) {
            int sum = 0;
            for (int p = 0; p < MAX_PERSONS; p++) {
                sum += of(p, owed);
            }
            return sum;
        }

        int sorrow() {
            int sum = 0;
            for (int p = 0; p < MAX_PERSONS; p++) {
                sum += total[p];
            }
            return sum;
        }

        boolean isMutual(int a, int b) {
            return of(a, b) > 0 && of(b, a) > 0;
        }

        int creditors(int debtor) {
            int set = 0;
            for (int p = 0; p < MAX_PERSONS; p++) {
                if (of(debtor, p) > 0) {
                    set |= 1 << p;
                }
            }
            return set;
        }

        int debtorsOf(int owed) {
            int set = 0;
            for (int p = 0; p < MAX_PERSONS; p++) {
                if (of(p, owed) > 0) {
                    set |= 1 << p;
                }
            }
            return set;
        }

        int creditorsOfAll(int debtors) {
            int set = 0;
            for (int p = 0; p < MAX_PERSONS; p++) {
                if (has(debtors, p)) {
                    set |= creditors(p);
                }
            }
            return set;
        }
    }

    /** The LAND with all that became of it. */
    private static final class Land {
        final Roads roads = new Roads();
        final Debts debts = new Debts();
        final long[] houseNames = new long[MAX_HOUSES];
        final long[] personNames = new long[MAX_PERSONS];
        int persons = 0;
        final int[] at = new int[MAX_PERSONS];
        final int[] home = new int[MAX_PERSONS];
        int dead = 0;
        int deaf = 0;
        int keeps = 0;
        final int[] heirs = new int[MAX_PERSONS * MAX_HEIRS];
        final int[] heirCounts = new int[MAX_PERSONS];
        int night = 0;
        int said = 0;
        final int[] labour = new int[MAX_HOUSES];

        void clear() {
            roads.clear();
            debts.clear();
            persons = 0;
            dead = 0;
            deaf = 0;
            keeps = 0;
            night = 0;
            said = 0;
            Arrays.fill(heirCounts, 0);
            Arrays.fill(labour, 0);
        }

        void copyFrom(Land other) {
            roads.copyFrom(other.roads);
            debts.copyFrom(other.debts);
            persons = other.persons;
            dead = other.dead;
            deaf = other.deaf;
            keeps = other.keeps;
            night = other.night;
            said = other.said;
            System.arraycopy(other.houseNames, 0, houseNames, 0, houseNames.length);
            System.arraycopy(other.personNames, 0, personNames, 0, personNames.length);
            System.arraycopy(other.at, 0, at, 0, at.length);
            System.arraycopy(other.home, 0, home, 0, home.length);
            System.arraycopy(other.heirs, 0, heirs, 0, heirs.length);
            System.arraycopy(other.heirCounts, 0, heirCounts, 0, heirCounts.length);
            System.arraycopy(other.labour, 0, labour, 0, labour.length);
        }

        int houseNamed(long name) {
            for (int h = 0; h < roads.houses; h++) {
                if (houseNames[h] == name) {
                    return h;
                }
            }
            return NONE;
        }

        int personNamed(long name) {
            for (int p = 0; p < persons; p++) {
                if (personNames[p] == name) {
                    return p;
                }
            }
            return NONE;
        }

        boolean isDead(int p) {
            return has(dead, p);
        }

        boolean isGhost(int p) {
            return has(dead, p) && debts.total[p] > 0;
        }

        int ghosts() {
            int set = 0;
            for (int p = 0; p < persons; p++) {
                if (isGhost(p)) {
                    set |= 1 << p;
                }
            }
            return set;
        }

        int ghostHouses() {
            int set = 0;
            for (int p = 0; p < persons; p++) {
                if (isGhost(p)) {
                    set |= 1 << at[p];
                }
            }
            return set;
        }

        int inHouse(int house) {
            int set = 0;
            for (int p = 0; p < persons; p++) {
                if (at[p] == house) {
                    set |= 1 << p;
                }
            }
            return set;
        }

        /** Asks not whether the PERSON is DEAD, since step() asks as if it were. */
        int aimOf(int p) {
            int best = NONE;
            int fewest = MAX_HOUSES;
            for (int q = 0; q < persons; q++) {
                if (debts.of(p, q) > 0) {
                    int length = roads.distance(at[p], at[q]);
                    if (length != NONE && length < fewest) {
                        fewest = length;
                        best = q;
                    }
                }
            }
            return best;
        }

        int nextStop(int p) {
            int aim = aimOf(p);
            return aim == NONE ? at[p] : roads.nextHouse(at[p], at[aim]);
        }

        void passNights(int many) {
            for (int k = 0; k < many; k++) {
                night++;
                for (int p = 0; p < persons; p++) {
                    if (isGhost(p)) {
                        haunt(p);
                    }
                }
            }
        }

        private void haunt(int p) {
            int aim = aimOf(p);
            if (aim == NONE) {
                return;
            }
            if (at[aim] == at[p]) {
                saySorry(p, aim);
            } else {
                at[p] = roads.nextHouse(at[p], at[aim]);
            }
        }

        private void saySorry(int p, int aim) {
            said++;
            if (has(dead, aim)) {
                if (debts.of(aim, p) > 0) {
                    debts.put(aim, p, 0);
                    debts.put(p, aim, 0);
                } else {
                    debts.put(p, aim, debts.of(p, aim) - 1);
                }
            } else if (has(keeps, aim)) {
                if (labour[at[aim]] < MAX_LABOUR) {
                    labour[at[aim]]++;
                }
            } else if (!has(deaf, aim) || night % 2 == 1) {
                debts.put(p, aim, debts.of(p, aim) - 1);
            }
        }

        /** The HEIRS of one who is owed that would get a SHARE of what a debtor owes it. */
        int heirSet(int debtor, int owed) {
            int set = 0;
            for (int k = 0; k < heirCounts[owed]; k++) {
                int h = heirs[owed * MAX_HEIRS + k];
                if (h != debtor && !has(dead, h)) {
                    set |= 1 << h;
                }
            }
            return set;
        }

        /** The SHARE of one of the heirSet: the first of them has all that thirds leave over. */
        int shareOf(int debtor, int owed, int heir, int set) {
            int many = debts.of(debtor, owed);
            int third = many / 3;
            for (int k = 0; k < heirCounts[owed]; k++) {
                int h = heirs[owed * MAX_HEIRS + k];
                if (has(set, h)) {
                    return h == heir ? many - third * (Integer.bitCount(set) - 1) : third;
                }
            }
            return 0;
        }

        /** DIE; false if it can't be, as for NONE. */
        boolean bury(int p) {
            if (p == NONE || has(dead, p)) {
                return false;
            }
            dead |= 1 << p;
            for (int debtor = 0; debtor < persons; debtor++) {
                if (debts.of(debtor, p) > 0) {
                    passOn(debtor, p);
                }
            }
            return true;
        }

        private void passOn(int debtor, int owed) {
            int set = heirSet(debtor, owed);
            for (int h = 0; h < persons; h++) {
                if (has(set, h)) {
                    debts.add(debtor, h, shareOf(debtor, owed, h, set));
                }
            }
            debts.put(debtor, owed, 0);
        }

        /** FORGIVE; false if it can't be. */
        boolean remit(int living, int debtor) {
            if (isDead(living) || debts.of(debtor, living) == 0) {
                return false;
            }
            debts.put(debtor, living, 0);
            return true;
        }

        void remitAll(int living) {
            for (int p = 0; p < persons; p++) {
                debts.put(p, living, 0);
            }
        }

        /** FORGE; false if it can't be. */
        boolean slander(int ghost, int living, int many) {
            if (!isDead(ghost) || isDead(living)) {
                return false;
            }
            debts.add(ghost, living, many);
            return true;
        }
    }

    /** Looks ahead: lets NIGHTS pass in a LAND of its own, so that the one that is stays as it is. */
    private static final class Seer {
        final Land dream = new Land();
        final int[] visits = new int[MAX_HOUSES];

        Land after(Land land, int nights) {
            dream.copyFrom(land);
            dream.passNights(nights);
            return dream;
        }

        int nightsToRest(Land land, int p) {
            dream.copyFrom(land);
            for (int k = 0; k <= FAR_NIGHTS; k++) {
                if (!dream.isGhost(p)) {
                    return k;
                }
                dream.passNights(1);
            }
            return NONE;
        }

        int nightsToQuiet(Land land, int house) {
            dream.copyFrom(land);
            for (int k = 0; k <= NEAR_NIGHTS; k++) {
                if (!has(dream.ghostHouses(), house)) {
                    return k;
                }
                dream.passNights(1);
            }
            return NONE;
        }

        int nightsToLabour(Land land, int house, int labour) {
            dream.copyFrom(land);
            for (int k = 0; k <= FAR_NIGHTS; k++) {
                if (dream.labour[house] >= labour) {
                    return k;
                }
                dream.passNights(1);
            }
            return NONE;
        }

        int nightsToMeeting(Land land, int a, int b) {
            dream.copyFrom(land);
            for (int k = 0; k <= NEAR_NIGHTS; k++) {
                if (dream.at[a] == dream.at[b]) {
                    return k;
                }
                dream.passNights(1);
            }
            return NONE;
        }

        int ghostsSeen(Land land, int house, int nights) {
            dream.copyFrom(land);
            int set = dream.inHouse(house) & dream.ghosts();
            for (int k = 0; k < nights; k++) {
                dream.passNights(1);
                set |= dream.inHouse(house) & dream.ghosts();
            }
            return set;
        }

        int nightsSpent(Land land, int p, int house, int nights) {
            dream.copyFrom(land);
            int many = 0;
            for (int k = 0; k < nights; k++) {
                dream.passNights(1);
                if (dream.at[p] == house) {
                    many++;
                }
            }
            return many;
        }

        int housesSeen(Land land, int p, int nights) {
            dream.copyFrom(land);
            int set = 1 << dream.at[p];
            for (int k = 0; k < nights; k++) {
                dream.passNights(1);
                set |= 1 << dream.at[p];
            }
            return set;
        }

        /** The HOUSE with the most GHOSTS at the ends of so many NIGHTS, or now (0); NONE if never one. */
        int fullestHouse(Land land, int nights) {
            dream.copyFrom(land);
            Arrays.fill(visits, 0);
            if (nights == 0) {
                countVisits();
            }
            for (int k = 0; k < nights; k++) {
                dream.passNights(1);
                countVisits();
            }
            int best = NONE;
            int most = 0;
            for (int h = 0; h < MAX_HOUSES; h++) {
                if (visits[h] > most) {
                    most = visits[h];
                    best = h;
                }
            }
            return best;
        }

        private void countVisits() {
            for (int p = 0; p < dream.persons; p++) {
                if (dream.isGhost(p)) {
                    visits[dream.at[p]]++;
                }
            }
        }
    }

    /** Tries what could be done, in a LAND of its own. */
    private static final class Planner {
        final Land dream = new Land();
        /** For each set of PERSONS, those who can be the last of a row of just these. */
        final int[] lasts = new int[1 << MAX_PERSONS];
        final int[] debtors = new int[MAX_PERSONS];

        int sorrowWithout(Land land, int p) {
            dream.copyFrom(land);
            dream.bury(p);
            return dream.debts.sorrow();
        }

        int bestDeath(Land land) {
            int best = NONE;
            int least = 0;
            for (int p = 0; p < land.persons; p++) {
                if (!land.isDead(p)) {
                    int sorrow = sorrowWithout(land, p);
                    if (best == NONE || sorrow < least) {
                        least = sorrow;
                        best = p;
                    }
                }
            }
            return best;
        }

        int bestKeeper(Land land) {
            int best = NONE;
            int most = 0;
            for (int p = 0; p < land.persons; p++) {
                if (!has(land.dead | land.keeps, p)) {
                    int labour = labourWithKeeper(land, p);
                    if (best == NONE || labour > most) {
                        most = labour;
                        best = p;
                    }
                }
            }
            return best;
        }

        private int labourWithKeeper(Land land, int p) {
            dream.copyFrom(land);
            dream.keeps |= 1 << p;
            dream.passNights(KEEPER_NIGHTS);
            int sum = 0;
            for (int h = 0; h < dream.roads.houses; h++) {
                sum += dream.labour[h];
            }
            return sum;
        }

        /** WEDDING as a set. Sets come by their numbers, so of equally small ones the least is met first. */
        int leastSalt(Land land, int house) {
            Roads roads = land.roads;
            int ghosts = land.ghostHouses() & ~(1 << house);
            int fixed = roads.salt | 1 << house;
            int best = NONE;
            int fewest = MAX_HOUSES + 1;
            for (int set = 0; set < 1 << roads.houses; set++) {
                int many = Integer.bitCount(set);
                if ((set & fixed) == 0 && many < fewest && !has(roads.spread(ghosts, roads.salt | set), house)) {
                    fewest = many;
                    best = set;
                }
            }
            return best;
        }

        /** PARDON as a set, of those alone to whom a DEAD one owes: others can't be among the fewest. */
        int leastPardon(Land land, int house, int nights) {
            int useful = 0;
            for (int p = 0; p < land.persons; p++) {
                if (land.isDead(p)) {
                    useful |= land.debts.creditors(p);
                }
            }
            useful &= ~land.dead;
            int best = NONE;
            int fewest = MAX_PERSONS + 1;
            for (int set = 0; set < 1 << land.persons; set++) {
                int many = Integer.bitCount(set);
                if ((set & ~useful) == 0 && many < fewest && isQuietBy(land, set, house, nights)) {
                    fewest = many;
                    best = set;
                }
            }
            return best;
        }

        private boolean isQuietBy(Land land, int forgivers, int house, int nights) {
            dream.copyFrom(land);
            for (int p = 0; p < dream.persons; p++) {
                if (has(forgivers, p)) {
                    dream.remitAll(p);
                }
            }
            dream.passNights(nights);
            return !has(dream.ghostHouses(), house);
        }

        /** PAIR as one number, the first times 8 and the second; NONE without one. */
        int deadCouple(Land land) {
            int best = NONE;
            int most = 0;
            for (int a = 0; a < land.persons; a++) {
                for (int b = a + 1; b < land.persons; b++) {
                    int together = land.debts.of(a, b) + land.debts.of(b, a);
                    boolean fits = land.isDead(a) && land.isDead(b) && land.debts.isMutual(a, b);
                    if (fits && together > most) {
                        most = together;
                        best = a * MAX_PERSONS + b;
                    }
                }
            }
            return best;
        }

        /** Goes by sets, not by rows, since eight who all owe each other have far too many rows. */
        int longestRow(Land land) {
            for (int p = 0; p < MAX_PERSONS; p++) {
                debtors[p] = land.debts.debtorsOf(p);
            }
            int longest = 0;
            for (int set = 1; set < 1 << land.persons; set++) {
                int many = Integer.bitCount(set);
                lasts[set] = many == 1 ? set : lastsOf(set);
                if (lasts[set] != 0 && many > longest) {
                    longest = many;
                }
            }
            return longest;
        }

        private int lastsOf(int set) {
            int found = 0;
            for (int p = 0; p < MAX_PERSONS; p++) {
                if (has(set, p) && (lasts[set & ~(1 << p)] & debtors[p]) != 0) {
                    found |= 1 << p;
                }
            }
            return found;
        }

        int bestThreshold(Land land) {
            int best = NONE;
            int most = 0;
            for (int h = 0; h < land.roads.houses; h++) {
                if (!has(land.roads.salt, h)) {
                    int many = ghostsKeptOff(land, land.roads.salt | 1 << h);
                    if (best == NONE || many > most) {
                        most = many;
                        best = h;
                    }
                }
            }
            return best;
        }

        private int ghostsKeptOff(Land land, int salt) {
            int many = 0;
            for (int p = 0; p < land.persons; p++) {
                if (land.isGhost(p) && !reachesSome(land, p, salt)) {
                    many++;
                }
            }
            return many;
        }

        private boolean reachesSome(Land land, int p, int salt) {
            int reached = land.roads.spread(1 << land.at[p], salt);
            for (int q = 0; q < land.persons; q++) {
                if (land.debts.of(p, q) > 0 && has(reached, land.at[q])) {
                    return true;
                }
            }
            return false;
        }
    }

    /** The tape, the TEXT on it TOKEN by TOKEN, and the first FAULT in the TEXT read latest. */
    private static final class Tape {
        static final int TEXT_END = 0;
        static final int BAD = 1;
        static final int WORD = 2;
        static final int NUMBER = 3;
        static final int SIGN = 4;

        final int[] bytes = new int[MAX_TAPE];
        int length = 0;
        final long[] keywords = new long[KEYWORD_COUNT];
        private int textEnd = 0;
        private int next = 0;
        int kind = TEXT_END;
        private int start = 0;
        long name = 0;
        int keyword = NONE;
        private int value = 0;
        /** NONE ahead of any TEXT. */
        int faultKind = NONE;
        int faultPlace = NONE;

        Tape() {
            long code = 0;
            int k = 0;
            for (int i = 0; i < KEYWORDS.length() && k < KEYWORD_COUNT; i++) {
                char c = KEYWORDS.charAt(i);
                if (c == ' ') {
                    keywords[k] = code;
                    code = 0;
                    k++;
                } else {
                    code = code * 32 + c - 'a' + 1;
                }
            }
        }

        void put(int four) {
            for (int shift = 24; shift >= 0 && length < MAX_TAPE; shift -= 8) {
                bytes[length] = four >> shift & 255;
                length++;
            }
        }

        void begin(int many) {
            textEnd = Math.min(many, MAX_TAPE);
            next = 0;
            faultKind = 0;
            faultPlace = NONE;
            advance();
        }

        void advance() {
            for (int k = 0; k < MAX_TAPE && next < textEnd && isBlank(bytes[next]); k++) {
                next++;
            }
            start = next;
            if (next >= textEnd) {
                kind = TEXT_END;
            } else if (isLetter(bytes[next])) {
                scanWord();
            } else if (isDigit(bytes[next])) {
                scanNumber();
            } else {
                value = bytes[next];
                kind = isSign(value) ? SIGN : BAD;
                next++;
            }
        }

        /** A word becomes a number, five bits a letter; one too long for that is no NAME: 0. */
        private void scanWord() {
            kind = WORD;
            name = 0;
            for (int k = 0; k < MAX_TAPE && next < textEnd; k++) {
                int c = bytes[next];
                if (c < 'a' || c > 'z') {
                    break;
                }
                name = name * 32 + c - 'a' + 1;
                next++;
            }
            if (next - start > MAX_NAME) {
                name = 0;
            }
            keyword = NONE;
            for (int k = 0; k < KEYWORD_COUNT; k++) {
                if (keywords[k] == name) {
                    keyword = k;
                }
            }
        }

        private void scanNumber() {
            value = 0;
            for (int k = 0; k < MAX_TAPE && next < textEnd; k++) {
                int c = bytes[next];
                if (c < '0' || c > '9') {
                    break;
                }
                value = value * 10 + c - '0';
                next++;
            }
            kind = next - start > MAX_DIGITS ? BAD : NUMBER;
        }

        private static boolean isBlank(int c) {
            return c == 10 || c == 32;
        }

        private static boolean isLetter(int c) {
            return c >= 'a' && c <= 'z';
        }

        private static boolean isDigit(int c) {
            return c >= '0' && c <= '9';
        }

        private static boolean isSign(int c) {
            return c == ';' || c == '<' || c == '>' || c == '=';
        }

        boolean goesOn() {
            return faultKind == 0 && kind != TEXT_END;
        }

        /** Always false, so that a reader can give up with it; what is no TOKEN is that FAULT first. */
        boolean fail(int fault) {
            if (faultKind == 0) {
                faultKind = kind == BAD ? FAULT_TOKEN : fault;
                faultPlace = start;
            }
            return false;
        }

        boolean isWord(int wanted) {
            return kind == WORD && keyword == wanted;
        }

        boolean isName() {
            return kind == WORD && keyword == NONE && name != 0;
        }

        boolean takeWord(int wanted) {
            if (!isWord(wanted)) {
                return fail(FAULT_STAND);
            }
            advance();
            return true;
        }

        boolean takeSemicolon() {
            if (kind != SIGN || value != ';') {
                return fail(FAULT_STAND);
            }
            advance();
            return true;
        }

        /** The sign of a comparison, or NONE. */
        int takeCompare() {
            if (kind != SIGN || value == ';') {
                fail(FAULT_STAND);
                return NONE;
            }
            int sign = value;
            advance();
            return sign;
        }

        /** A NUMBER within bounds, or NONE. */
        int takeNumber(int least, int most) {
            if (kind != NUMBER) {
                fail(FAULT_STAND);
                return NONE;
            }
            if (value < least || value > most) {
                fail(FAULT_NUMBER);
                return NONE;
            }
            int number = value;
            advance();
            return number;
        }

        /** The HOUSE named here, or NONE; the TOKEN stays, since more may be wrong with it. */
        int houseHere(Land land) {
            int found = isName() ? land.houseNamed(name) : NONE;
            if (found == NONE) {
                fail(isName() ? FAULT_NAME : FAULT_STAND);
            }
            return found;
        }

        /** The PERSON named here, or NONE; the TOKEN stays, since more may be wrong with it. */
        int personHere(Land land) {
            int found = isName() ? land.personNamed(name) : NONE;
            if (found == NONE) {
                fail(isName() ? FAULT_NAME : FAULT_STAND);
            }
            return found;
        }

        int takeHouse(Land land) {
            int found = houseHere(land);
            if (found != NONE) {
                advance();
            }
            return found;
        }

        int takePerson(Land land) {
            int found = personHere(land);
            if (found != NONE) {
                advance();
            }
            return found;
        }
    }

    /** Reads a LAND; with a FAULT what it filled is of no use. */
    private static final class LandReader {
        final Tape tape;
        final Land land;

        LandReader(Tape tape, Land land) {
            this.tape = tape;
            this.land = land;
        }

        void readAll(int many) {
            land.clear();
            tape.begin(many);
            for (int k = 0; k < MAX_TAPE && tape.goesOn(); k++) {
                readPart();
            }
            land.roads.survey();
        }

        private boolean readPart() {
            if (tape.isWord(HOUSE)) {
                return readHouse();
            }
            if (tape.isWord(DOOR)) {
                return readDoor();
            }
            if (tape.isWord(PERSON)) {
                return readPerson();
            }
            if (tape.isWord(OWES)) {
                return readOwes();
            }
            if (tape.isWord(HEIR)) {
                return readHeir();
            }
            return tape.fail(FAULT_STAND);
        }

        private boolean isNewName() {
            if (!tape.isName()) {
                return tape.fail(FAULT_STAND);
            }
            boolean taken = land.houseNamed(tape.name) != NONE || land.personNamed(tape.name) != NONE;
            return taken ? tape.fail(FAULT_NAME) : true;
        }

        private boolean takeIf(int word) {
            boolean there = tape.isWord(word);
            if (there) {
                tape.advance();
            }
            return there;
        }

        private boolean readHouse() {
            int house = land.roads.houses;
            if (house >= MAX_HOUSES) {
                return tape.fail(FAULT_MANY);
            }
            tape.advance();
            if (!isNewName()) {
                return false;
            }
            land.houseNames[house] = tape.name;
            land.roads.houses++;
            tape.advance();
            if (takeIf(SALT)) {
                land.roads.salt |= 1 << house;
            }
            return tape.takeSemicolon();
        }

        private boolean readDoor() {
            tape.advance();
            int a = tape.takeHouse(land);
            if (a == NONE) {
                return false;
            }
            int b = tape.houseHere(land);
            if (b == NONE) {
                return false;
            }
            if (a == b) {
                return tape.fail(FAULT_TWICE);
            }
            land.roads.hang(a, b, true);
            tape.advance();
            return tape.takeSemicolon();
        }

        private boolean readPerson() {
            int person = land.persons;
            if (person >= MAX_PERSONS) {
                return tape.fail(FAULT_MANY);
            }
            tape.advance();
            if (!isNewName()) {
                return false;
            }
            land.personNames[person] = tape.name;
            tape.advance();
            if (!tape.takeWord(IN)) {
                return false;
            }
            int house = tape.takeHouse(land);
            if (house == NONE) {
                return false;
            }
            land.at[person] = house;
            land.home[person] = house;
            land.dead |= takeIf(DEAD) ? 1 << person : 0;
            land.deaf |= takeIf(DEAF) ? 1 << person : 0;
            land.keeps |= takeIf(KEEPS) ? 1 << person : 0;
            land.persons++;
            return tape.takeSemicolon();
        }

        private boolean readOwes() {
            tape.advance();
            int debtor = tape.takePerson(land);
            int owed = debtor == NONE ? NONE : otherPerson(debtor);
            if (owed == NONE) {
                return false;
            }
            tape.advance();
            int many = tape.takeNumber(0, MAX_OWED);
            if (many == NONE) {
                return false;
            }
            land.debts.put(debtor, owed, many);
            return tape.takeSemicolon();
        }

        private boolean readHeir() {
            tape.advance();
            int person = tape.takePerson(land);
            int heir = person == NONE ? NONE : otherPerson(person);
            if (heir == NONE) {
                return false;
            }
            int count = land.heirCounts[person];
            for (int k = 0; k < count; k++) {
                if (land.heirs[person * MAX_HEIRS + k] == heir) {
                    return tape.fail(FAULT_TWICE);
                }
            }
            if (count >= MAX_HEIRS) {
                return tape.fail(FAULT_MANY);
            }
            land.heirs[person * MAX_HEIRS + count] = heir;
            land.heirCounts[person]++;
            tape.advance();
            return tape.takeSemicolon();
        }

        private int otherPerson(int person) {
            int other = tape.personHere(land);
            if (other == person) {
                tape.fail(FAULT_TWICE);
                return NONE;
            }
            return other;
        }
    }

    /**
     * TALES, a row of STEPS with the ends among them. A when stands as its TEST (LABOUR, REST, AT);
     * it, a loop and their end know each other as partners.
     */
    private static final class Tales {
        boolean there = false;
        int steps = 0;
        int size = 0;
        final int[] kinds = new int[MAX_STEPS * 2];
        final int[] firsts = new int[MAX_STEPS * 2];
        final int[] seconds = new int[MAX_STEPS * 2];
        final int[] numbers = new int[MAX_STEPS * 2];
        final int[] partners = new int[MAX_STEPS * 2];

        void clear() {
            there = false;
            steps = 0;
            size = 0;
        }

        void copyFrom(Tales other) {
            there = other.there;
            steps = other.steps;
            size = other.size;
            System.arraycopy(other.kinds, 0, kinds, 0, kinds.length);
            System.arraycopy(other.firsts, 0, firsts, 0, firsts.length);
            System.arraycopy(other.seconds, 0, seconds, 0, seconds.length);
            System.arraycopy(other.numbers, 0, numbers, 0, numbers.length);
            System.arraycopy(other.partners, 0, partners, 0, partners.length);
        }

        void add(int kind, int first, int second, int number) {
            if (size < kinds.length) {
                kinds[size] = kind;
                firsts[size] = first;
                seconds[size] = second;
                numbers[size] = number;
                partners[size] = size;
                size++;
            }
        }
    }

    /** Reads TALES about a LAND; with a FAULT what it filled is of no use. */
    private static final class TalesReader {
        final Tape tape;
        final Land land;
        final Tales tales;
        final int[] open = new int[MAX_NESTED];
        int depth = 0;

        TalesReader(Tape tape, Land land, Tales tales) {
            this.tape = tape;
            this.land = land;
            this.tales = tales;
        }

        void readAll(int many) {
            tales.clear();
            depth = 0;
            tape.begin(many);
            for (int k = 0; k < MAX_TALES_BYTES && tape.goesOn(); k++) {
                if (tape.isWord(END)) {
                    readEnd();
                } else {
                    readStep();
                }
            }
            if (depth > 0) {
                tape.fail(FAULT_STAND);
            }
            tales.there = true;
        }

        private boolean readEnd() {
            if (depth < 1) {
                return tape.fail(FAULT_STAND);
            }
            depth--;
            int begin = open[depth];
            int end = tales.size;
            tales.add(END, 0, 0, 0);
            tales.partners[begin] = end;
            tales.partners[end] = begin;
            tape.advance();
            return tape.takeSemicolon();
        }

        private boolean readStep() {
            int kind = tape.kind == Tape.WORD ? tape.keyword : NONE;
            if (!isStep(kind)) {
                return tape.fail(FAULT_STAND);
            }
            if (tales.steps >= MAX_STEPS) {
                return tape.fail(FAULT_MANY);
            }
            if ((kind == WHEN || kind == LOOP) && depth >= MAX_NESTED) {
                return tape.fail(FAULT_DEEP);
            }
            tales.steps++;
            tape.advance();
            boolean good = kind == WHEN ? readTest() : readRest(kind);
            if (!good || !tape.takeSemicolon()) {
                return false;
            }
            if (kind == WHEN || kind == LOOP) {
                open[depth] = tales.size - 1;
                depth++;
            }
            return true;
        }

        private static boolean isStep(int word) {
            switch (word) {
                case NIGHT:
                case DIE:
                case FORGIVE:
                case SALT:
                case SWEEP:
                case FORGE:
                case ANY:
                case WHEN:
                case LOOP:
                case STOP:
                    return true;
                default:
                    return false;
            }
        }

        private boolean readRest(int kind) {
            switch (kind) {
                case NIGHT: return readCount(kind, 9);
                case LOOP: return readCount(kind, 99);
                case DIE: return readPersonStep(kind);
                case SALT:
                case SWEEP: return readHouseStep(kind);
                case FORGIVE: return readForgive();
                case FORGE: return readForge();
                default:
                    tales.add(kind, 0, 0, 0);
                    return true;
            }
        }

        private boolean readCount(int kind, int most) {
            int number = tape.takeNumber(1, most);
            tales.add(kind, 0, 0, number);
            return number != NONE;
        }

        private boolean readPersonStep(int kind) {
            int person = tape.takePerson(land);
            tales.add(kind, person, 0, 0);
            return person != NONE;
        }

        private boolean readHouseStep(int kind) {
            int house = tape.takeHouse(land);
            tales.add(kind, house, 0, 0);
            return house != NONE;
        }

        private boolean readForgive() {
            int living = tape.takePerson(land);
            int debtor = living == NONE ? NONE : tape.takePerson(land);
            tales.add(FORGIVE, living, debtor, 0);
            return debtor != NONE;
        }

        private boolean readForge() {
            int ghost = tape.takePerson(land);
            if (ghost == NONE || !tape.takeWord(TO)) {
                return false;
            }
            int living = tape.takePerson(land);
            int many = living == NONE ? NONE : tape.takeNumber(1, MAX_OWED);
            tales.add(FORGE, ghost, living, many);
            return many != NONE;
        }

        private boolean readTest() {
            int test = tape.kind == Tape.WORD ? tape.keyword : NONE;
            if (test != LABOUR && test != REST && test != AT) {
                return tape.fail(FAULT_STAND);
            }
            tape.advance();
            switch (test) {
                case LABOUR: return readLabourTest();
                case REST: return readPersonStep(REST);
                default: return readAtTest();
            }
        }

        private boolean readLabourTest() {
            int house = tape.takeHouse(land);
            int sign = house == NONE ? NONE : tape.takeCompare();
            int number = sign == NONE ? NONE : tape.takeNumber(0, MAX_LABOUR);
            tales.add(LABOUR, house, sign, number);
            return number != NONE;
        }

        private boolean readAtTest() {
            int person = tape.takePerson(land);
            if (person == NONE || !tape.takeWord(IN)) {
                return false;
            }
            int house = tape.takeHouse(land);
            tales.add(AT, person, house, 0);
            return house != NONE;
        }
    }

    /** TALES as they are LIVED by a seed in a LAND, and what is told of that. */
    private static final class Life {
        boolean there = false;
        int done = 0;
        int missed = 0;
        int nights = 0;
        int said = 0;
        int deaths = 0;
        int left = 0;
        private int draws = 0;
        /** How often a loop is still to be gone through, by its place. */
        private final int[] turns = new int[MAX_STEPS * 2];

        void run(Tales tales, Land land, int seed) {
            begin(land, seed);
            int place = 0;
            for (int k = 0; k < ENDLESS && place < tales.size; k++) {
                boolean isStep = tales.kinds[place] != END;
                if (isStep && done >= MAX_STEPS_DONE) {
                    left = 1;
                    break;
                }
                done += isStep ? 1 : 0;
                place = placeBehind(tales, land, place);
            }
            nights += land.night;
            said += land.said;
            deaths += Integer.bitCount(land.dead);
        }

        /** What the LAND counts on and on is taken off ahead, so that what is added behind leaves the rest. */
        private void begin(Land land, int seed) {
            there = true;
            done = 0;
            missed = 0;
            nights = -land.night;
            said = -land.said;
            deaths = -Integer.bitCount(land.dead);
            left = 0;
            draws = seed;
        }

        /** Does what stands at a place and tells the place that comes then. */
        private int placeBehind(Tales tales, Land land, int place) {
            int partner = tales.partners[place];
            switch (tales.kinds[place]) {
                case LOOP:
                    turns[place] = tales.numbers[place];
                    return place + 1;
                case END:
                    turns[partner]--;
                    return tales.kinds[partner] == LOOP && turns[partner] > 0 ? partner + 1 : place + 1;
                case LABOUR:
                case REST:
                case AT:
                    return holds(tales, land, place) ? place + 1 : partner + 1;
                case STOP:
                    return tales.size;
                default:
                    missed += isDone(tales, land, place) ? 0 : 1;
                    return place + 1;
            }
        }

        private static boolean holds(Tales tales, Land land, int place) {
            int first = tales.firsts[place];
            int second = tales.seconds[place];
            switch (tales.kinds[place]) {
                case REST: return !land.isGhost(first);
                case AT: return land.at[first] == second;
                default: return compares(land.labour[first], second, tales.numbers[place]);
            }
        }

        private static boolean compares(int a, int sign, int b) {
            switch (sign) {
                case '<': return a < b;
                case '>': return a > b;
                default: return a == b;
            }
        }

        /** False if the STEP is MISSED. */
        private boolean isDone(Tales tales, Land land, int place) {
            int first = tales.firsts[place];
            int second = tales.seconds[place];
            int number = tales.numbers[place];
            switch (tales.kinds[place]) {
                case NIGHT:
                    if (land.night + number > MAX_NIGHT) {
                        return false;
                    }
                    land.passNights(number);
                    return true;
                case DIE: return land.bury(first);
                case FORGIVE: return land.remit(first, second);
                case SALT: return land.roads.strew(first, true);
                case SWEEP: return land.roads.strew(first, false);
                case FORGE: return land.slander(first, second, number);
                default: return land.bury(drawLiving(land));
            }
        }

        /** One of the living by a draw; NONE, and no draw, without one. */
        private int drawLiving(Land land) {
            int living = land.persons - Integer.bitCount(land.dead);
            if (living < 1) {
                return NONE;
            }
            draws = (draws * 2969 + 11171) % 65536;
            int index = draws / 8 % living;
            for (int p = 0; p < land.persons; p++) {
                if (!land.isDead(p)) {
                    if (index == 0) {
                        return p;
                    }
                    index--;
                }
            }
            return NONE;
        }
    }
}
