import java.util.Arrays;
import java.util.NoSuchElementException;

/** A boat that fish tow over a lake, each toward what it was promised. */
public final class FishFerry {
    public static final int NONE = -1;

    private static final int MOST_FISH = 8;
    private static final int MOST_FIELDS = 36;
    private static final int FISH_SIGNS = 23;
    private static final int OAR_LINES = 12;
    private static final int DAY_SIGNS = 60;
    private static final int MOST_CRUMBS = 9;
    private static final int MOST_STORE = 99;
    private static final int MOST_COUNTED = 999;
    private static final int FARTHEST_HOUR = 99;
    private static final int LAW_HOURS = 12;
    private static final int SIGHT_HOURS = 20;
    private static final int KEEPS = 3;

    private static final int PIKE = 1;
    private static final int EEL = 2;
    private static final int SHOAL = 3;

    /** The answer of a call that was understood but has nothing to name. */
    private static final int NOTHING = -2;
    private static final int STUCK = -2;
    private static final int BOTH_WAYS = 4;
    private static final int EVERYONE = 255;

    private final Text text = new Text();
    private final Told told = new Told();
    private final Lake water = new Lake();
    private final School school = new School();
    private final Fog mist = new Fog();
    private final Tug tug = new Tug(water, school, mist);
    private final Trip trip = new Trip(water, school, tug);
    private final State now = new State();
    private final State before = new State();
    private final State trial = new State();
    private final Past past = new Past();
    private final Sights sights = new Sights();
    private final State[] stored = new State[KEEPS];
    /** Where BOAT is in each HOUR if a FISH lets go; the last line: if none does. */
    private final int[][] places = new int[MOST_FISH + 1][SIGHT_HOURS + 1];
    /** Numbers under which something is kept (bits). */
    private int storedSet = 0;
    private Rule pulling = new Rule();
    private Rule other = new Rule();

    public FishFerry() {
        for (int i = 0; i < KEEPS; i++) {
            stored[i] = new State();
        }
    }

    // ---- the lake, fish, promises, fog

    public int sign(int v) {
        return text.append(v) ? text.length() : NONE;
    }

    public boolean end(int n) {
        return text.shorten(n);
    }

    public int lake() {
        int fault = water.faultIn(text);
        if (fault == NONE) {
            water.take(text);
            school.size = 0;
            now.held = 0;
            now.boat = 0;
            now.hour = 0;
            past.clear();
            sights.clear();
            storedSet = 0;
        }
        text.clear();
        return fault == NONE ? water.fields() : -1 - fault;
    }

    public int fish() {
        if (text.length() == 0) {
            return 0;
        }
        int fault = fishFault();
        int lines = 0;
        if (fault == NONE) {
            lines = addFish();
            past.clear();
            storedSet = 0;
        }
        text.clear();
        return fault == NONE ? lines : -1 - fault;
    }

    public int oar() {
        if (text.length() == 0) {
            return 0;
        }
        int fault = oarFault();
        int lines = 0;
        if (fault == NONE) {
            past.push(now);
            lines = addPromises();
        }
        text.clear();
        return fault == NONE ? lines : -1 - fault;
    }

    public int fog() {
        int fault = mist.faultIn(text);
        if (fault == NONE) {
            mist.take(text);
        }
        int signs = text.length();
        text.clear();
        return fault == NONE ? signs : -1 - fault;
    }

    public int rule() {
        int fault = other.read(text);
        text.clear();
        if (fault != NONE) {
            return -1 - fault;
        }
        Rule old = pulling;
        pulling = other;
        other = old;
        return 0;
    }

    public int one(int fish, int what) throws NoSuchElementException {
        if (!school.has(fish) || what < 0 || what > 8) {
            throw new NoSuchElementException();
        }
        switch (what) {
            case 0: return school.kind[fish];
            case 1: return school.strength[fish];
            case 2: return now.tired[fish];
            case 3: return now.trust[fish];
            case 4: return now.holds(fish) ? 1 : 0;
            case 5: return now.goal[fish];
            case 6: return now.goal[fish] == NONE ? NONE : now.crumbs[fish];
            case 7:
                tug.measure(now, pulling);
                return tug.pull[fish];
            default:
                tug.measure(now, pulling);
                return tug.headingOf(fish);
        }
    }

    public int field(int field, int what) throws NoSuchElementException {
        if (!water.has(field) || what < 0 || what > 2) {
            throw new NoSuchElementException();
        }
        if (what == 0) {
            return water.isRock(field) ? 1 : 0;
        }
        if (what == 1) {
            return now.boat == field ? 1 : 0;
        }
        int set = 0;
        for (int i = 0; i < school.size; i++) {
            if (now.goal[i] == field) {
                set |= 1 << i;
            }
        }
        return set;
    }

    public int sheet(int kind, int n, int f, int step) {
        if (kind < 0 || kind > 3 || n > MOST_FISH) {
            return NONE;
        }
        if (kind == 3) {
            school.strengthen(0, kind, f, step);
            return -3;
        }
        if (n < 0) {
            return -2;
        }
        return school.strengthen(n, kind, f, step);
    }

    // ---- hours, promises

    public int hours(int n) {
        before.copy(now);
        int answer = noted(passHours(n));
        if (answer != NONE) {
            told.start();
            told.add(trip.kept);
            told.add(trip.broken);
            told.add(trip.stuck);
        }
        return answer;
    }

    public int promise(int fish, int field, int n) {
        before.copy(now);
        return noted(makePromise(now, fish, field, n));
    }

    public int takesBack(int fish) {
        before.copy(now);
        return noted(dropPromise(fish));
    }

    public int letsGo(int fish) {
        before.copy(now);
        return noted(turnHold(now, fish));
    }

    public int buys(int n) {
        before.copy(now);
        return noted(addCrumbs(n));
    }

    public int day() {
        int fault = dayFault();
        if (fault != NONE) {
            text.clear();
            return -1 - fault;
        }
        before.copy(now);
        int done = 0;
        boolean refused = false;
        for (int p = 0; p < text.length() && !refused; p += 1 + Math.max(0, digitsBehind(text.at(p)))) {
            refused = doAct(p) < 0;
            done += refused ? 0 : 1;
        }
        if (done > 0) {
            past.push(before);
        }
        text.clear();
        told.start();
        told.add(refused ? 1 : 0);
        told.add(now.boat);
        return done;
    }

    public int undo() {
        return past.pop(now) ? past.size : NONE;
    }

    // ---- where the boat goes

    public int towed() {
        tug.measure(now, pulling);
        tug.weigh(EVERYONE);
        told.start();
        for (int way = 0; way < 4; way++) {
            told.add(tug.net[way]);
        }
        return tug.goesFrom(now.boat);
    }

    public int ahead(int n) {
        if (n < 0 || n > FARTHEST_HOUR) {
            return NONE;
        }
        trial.copy(now);
        trip.pass(trial, pulling, n);
        told.start();
        told.add(trial.store);
        told.add(trial.kept);
        told.add(trial.broken);
        return trial.boat;
    }

    public int comes(int field) {
        if (!water.has(field)) {
            return NONE;
        }
        int hour = arrivesBy(0, field, 0, FARTHEST_HOUR);
        if (hour == NONE) {
            return NOTHING;
        }
        told.start();
        told.add(trial.store);
        return hour;
    }

    public int sticks() {
        trial.copy(now);
        for (int hour = 0; hour <= FARTHEST_HOUR; hour++) {
            trip.pass(trial, pulling, 1);
            if (trip.stuck > 0) {
                told.start();
                told.add(trial.boat);
                return hour;
            }
        }
        return NOTHING;
    }

    public long track(int n) {
        if (n < 1 || n > FARTHEST_HOUR) {
            return NONE;
        }
        trial.copy(now);
        long set = 1L << trial.boat;
        int stuck = 0;
        for (int hour = 0; hour < n; hour++) {
            trip.pass(trial, pulling, 1);
            set |= 1L << trial.boat;
            stuck += trip.stuck;
        }
        told.start();
        told.add(Long.bitCount(set));
        told.add(stuck);
        return set;
    }

    // ---- whom to promise

    public int sends(int field, int c, int n) {
        if (!canBeAskedFor(field, n) || c < 0 || c > MOST_CRUMBS) {
            return NONE;
        }
        int set = fewestBy(field, c, n, MOST_FISH);
        if (set == NONE) {
            return NOTHING;
        }
        told.start();
        told.add(set);
        told.add(arrivesBy(set, field, c, n));
        return Integer.bitCount(set);
    }

    public int cheapest(int field, int n) {
        if (!canBeAskedFor(field, n)) {
            return NONE;
        }
        int best = NONE;
        int bestCrumbs = 0;
        int bestSet = 0;
        // A rule that doesn't ask for crumbs tows alike for all of them.
        int most = pulling.asksForCrumbs() ? MOST_CRUMBS : 0;
        for (int c = 0; c <= most && best != 0; c++) {
            // Only what costs less than the best one so far is of use.
            int room = best == NONE || c == 0 ? MOST_FISH : (best - 1) / c;
            int set = fewestBy(field, c, n, room);
            if (set != NONE) {
                best = c * Integer.bitCount(set);
                bestCrumbs = c;
                bestSet = set;
            }
        }
        if (best == NONE) {
            return NOTHING;
        }
        told.start();
        told.add(bestCrumbs);
        told.add(bestSet);
        return best;
    }

    public int matters(int n) {
        if (n < 1 || n > 60) {
            return NONE;
        }
        trial.copy(now);
        trip.pass(trial, pulling, n);
        int usual = trial.boat;
        int first = NOTHING;
        int most = NONE;
        for (int i = 0; i < school.size; i++) {
            if (now.holds(i) && now.goal[i] != NONE) {
                trial.copy(now);
                trial.held &= ~(1 << i);
                trip.pass(trial, pulling, n);
                int far = water.gap(usual, trial.boat);
                if (far > most) {
                    most = far;
                    first = i;
                }
            }
        }
        if (first != NOTHING) {
            told.start();
            told.add(most);
        }
        return first;
    }

    // ---- what can be kept

    public int keeps() {
        int promised = now.promised(school.size);
        int best = 0;
        int bestCount = 0;
        int bestCrumbs = 0;
        for (int set = 1; set < 1 << school.size; set++) {
            if ((set & ~promised) != 0) {
                continue;
            }
            int count = Integer.bitCount(set);
            int crumbs = now.crumbsOf(set, school.size);
            boolean better = count > bestCount || count == bestCount && crumbs < bestCrumbs;
            if (crumbs <= now.store && better) {
                best = set;
                bestCount = count;
                bestCrumbs = crumbs;
            }
        }
        told.start();
        told.add(best);
        told.add(now.store - bestCrumbs);
        return bestCount;
    }

    public int owed() {
        int promised = now.promised(school.size);
        int crumbs = now.crumbsOf(promised, school.size);
        told.start();
        told.add(Math.max(0, crumbs - now.store));
        told.add(promised);
        return crumbs;
    }

    public int fates(int n) {
        if (n < 1 || n > FARTHEST_HOUR) {
            return NONE;
        }
        trial.copy(now);
        trip.pass(trial, pulling, n);
        told.start();
        told.add(trip.brokenSet);
        told.add(trial.promised(school.size));
        return trip.keptSet;
    }

    // ---- tugs, minds

    public int minds() {
        int set = 0;
        int shoals = 0;
        for (int i = 0; i < school.size; i++) {
            if (now.goal[i] != NONE && now.goal[i] != now.boat && water.isDiagonal(now.boat, now.goal[i])) {
                set |= 1 << i;
                if (school.kind[i] == SHOAL) {
                    shoals |= 1 << i;
                }
            }
        }
        told.start();
        told.add(Integer.bitCount(set));
        told.add(shoals);
        return set;
    }

    public int evens() {
        tug.measure(now, pulling);
        int pullers = tug.pullers();
        int all = tug.pullOf(pullers);
        int best = 0;
        int least = all;
        for (int set = 1; set < 1 << school.size; set++) {
            if ((set & ~pullers) != 0) {
                continue;
            }
            int differs = Math.abs(2 * tug.pullOf(set) - all);
            if (differs < least) {
                least = differs;
                best = set;
            }
        }
        told.start();
        told.add(best);
        told.add(tug.pullOf(best));
        return least;
    }

    public int strongest() {
        if (school.size == 0) {
            return NOTHING;
        }
        tug.measure(now, pulling);
        int first = 0;
        int most = NONE;
        int like = 0;
        for (int i = 0; i < school.size; i++) {
            if (tug.pull[i] > most) {
                most = tug.pull[i];
                first = i;
                like = 0;
            }
            if (tug.pull[i] == most) {
                like++;
            }
        }
        told.start();
        told.add(most);
        told.add(like);
        return first;
    }

    public int sways(int fish) {
        if (!school.has(fish)) {
            return NONE;
        }
        if (!now.holds(fish) || now.goal[fish] == NONE) {
            return NOTHING;
        }
        int others = now.promised(school.size) & now.held & ~(1 << fish);
        tug.measure(now, pulling);
        int swayed = 0;
        for (int set = 0; set < 1 << school.size; set++) {
            if ((set & ~others) == 0 && goesWith(set) != goesWith(set | 1 << fish)) {
                swayed++;
            }
        }
        told.start();
        told.add(1 << Integer.bitCount(others));
        return swayed;
    }

    // ---- who let go

    public int seen(int n, int field, int is) {
        if (n < 0 || n > SIGHT_HOURS || !water.has(field) || is < 0 || is > 1) {
            return NONE;
        }
        return sights.add(n, field, is == 1) ? sights.size : NONE;
    }

    public int forget() {
        int were = sights.size;
        sights.clear();
        return were;
    }

    public int fits() {
        int set = fitting();
        follow(MOST_FISH);
        told.start();
        told.add(Integer.bitCount(set));
        told.add(sights.agreeWith(places[MOST_FISH]) ? 1 : 0);
        return set;
    }

    public int looks() {
        int set = fitting();
        if (set == 0) {
            return NOTHING;
        }
        int best = 0;
        int fewest = MOST_FISH + 1;
        for (int hour = 0; hour <= SIGHT_HOURS; hour++) {
            int left = mostTogether(set, hour);
            if (left < fewest) {
                fewest = left;
                best = hour;
            }
        }
        told.start();
        told.add(fewest);
        return best;
    }

    // ---- ways

    public int way(int from, int to) {
        if (!water.has(from) || !water.has(to)) {
            return NONE;
        }
        if (water.isRock(from) || water.isRock(to)) {
            return NOTHING;
        }
        water.measureFrom(to);
        int steps = water.stepsTo(from);
        if (steps == NONE) {
            return NOTHING;
        }
        told.start();
        told.add(from);
        int at = from;
        for (int left = steps; left > 0 && at != NONE; left--) {
            at = water.nextBy(at, left - 1);
            told.add(at);
        }
        return steps;
    }

    public int farthest() {
        water.measureFrom(now.boat);
        int first = now.boat;
        int most = 0;
        long lost = 0;
        for (int field = 0; field < water.fields(); field++) {
            int steps = water.stepsTo(field);
            if (steps > most) {
                most = steps;
                first = field;
            }
            if (steps == NONE && !water.isRock(field)) {
                lost |= 1L << field;
            }
        }
        told.start();
        told.add(most);
        told.add(lost);
        return first;
    }

    // ---- fog, a game

    public int drifts(int way, int p) {
        if (way < 0 || way > 4 || p < 0 || p > 10) {
            return NONE;
        }
        tug.measure(now, pulling);
        int pullers = tug.pullers();
        int wanted = way == 4 ? STUCK : way;
        long upper = 0;
        long lower = power(10, Integer.bitCount(pullers));
        for (int set = 0; set < 1 << school.size; set++) {
            if ((set & ~pullers) == 0 && goesWith(set) == wanted) {
                int gone = Integer.bitCount(pullers & ~set);
                upper += power(p, gone) * power(10 - p, Integer.bitCount(set));
            }
        }
        long shared = sharedDivisor(upper, lower);
        told.start();
        told.add(upper / shared);
        told.add(lower / shared);
        return 0;
    }

    public int game(int n, int k) {
        if (n < 0 || n > 60 || k < 2 || k > 9) {
            return NONE;
        }
        if (n == 0) {
            return NOTHING;
        }
        // Bit m: who is to eat next wins with m crumbs on the water.
        long trout = 0;
        long pike = 0;
        for (int m = 1; m <= n; m++) {
            boolean troutWins = leaves(pike, m, 1) || leaves(pike, m, 2);
            boolean pikeWins = leaves(trout, m, 1) || leaves(trout, m, k);
            trout |= troutWins ? 1L << m : 0;
            pike |= pikeWins ? 1L << m : 0;
        }
        told.start();
        if ((trout >>> n & 1) == 0) {
            return 0;
        }
        told.add(leaves(pike, n, 1) ? 1 : 2);
        return 1;
    }

    // ---- laws, rests, years

    public int law() {
        int fault = other.read(text);
        text.clear();
        if (fault != NONE) {
            return -10000 - fault;
        }
        trial.copy(now);
        trip.pass(trial, pulling, LAW_HOURS);
        told.start();
        told.add(trial.boat);
        tug.measure(now, other);
        for (int i = 0; i < school.size; i++) {
            told.add(tug.pull[i]);
        }
        trial.copy(now);
        trip.pass(trial, other, LAW_HOURS);
        return trial.boat;
    }

    public int rests(int v) {
        if (v < 0 || v > 20) {
            return NONE;
        }
        int pairs = 0;
        told.start();
        for (int x = 0; x <= MOST_CRUMBS; x++) {
            for (int y = 0; y <= MOST_CRUMBS; y++) {
                if (isContent(x, y, v) && isContent(y, x, v)) {
                    if (pairs == 0) {
                        told.add(x);
                        told.add(y);
                    }
                    pairs++;
                }
            }
        }
        return pairs;
    }

    public int years(int seed, int n) {
        if (n < 1 || n > 60) {
            return NONE;
        }
        trial.copy(now);
        int r = seed;
        for (int i = 0; i < n; i++) {
            r = nextDraw(r);
            int what = drawn(r, 4);
            if (what < 2) {
                trip.pass(trial, pulling, 1);
            } else if (school.size > 0) {
                r = drawAct(r, what);
            }
        }
        told.start();
        told.add(trial.kept - now.kept);
        told.add(trial.broken - now.broken);
        return trial.boat;
    }

    // ---- kept

    public boolean keep(int i) {
        if (i < 0 || i >= KEEPS) {
            return false;
        }
        stored[i].copy(now);
        storedSet |= 1 << i;
        return true;
    }

    public boolean again(int i) {
        if (i < 0 || i >= KEEPS || (storedSet >>> i & 1) == 0) {
            return false;
        }
        now.copy(stored[i]);
        past.clear();
        return true;
    }

    public int count(int what) {
        switch (what) {
            case 0: return water.rows;
            case 1: return water.columns;
            case 2: return school.size;
            case 3: return now.boat;
            case 4: return now.store;
            case 5: return now.kept;
            case 6: return now.broken;
            case 7: return now.hour;
            case 8: return mist.in(now.hour);
            case 9: return now.held;
            case 10: return sights.size;
            case 11: return past.size;
            case 12: return told.size;
            case 13: return text.length();
            default: return -100;
        }
    }

    public long row(int i) throws NoSuchElementException {
        if (i < 0 || i >= told.size || i >= told.numbers.length) {
            throw new NoSuchElementException();
        }
        return told.numbers[i];
    }

    // ---- texts of fish, promises, days

    private static int kindOf(int sign) {
        switch (sign) {
            case 't': return 0;
            case 'p': return PIKE;
            case 'e': return EEL;
            case 's': return SHOAL;
            default: return NONE;
        }
    }

    /** The place of the first sign that can't stand in a text of FISH, or NONE. */
    private int fishFault() {
        int p = 0;
        for (int line = school.size; line < MOST_FISH; line++) {
            if (kindOf(text.at(p)) == NONE) {
                return p;
            }
            if (text.digit(p + 1) < 1) {
                return p + 1;
            }
            p += 2;
            if (p == text.length()) {
                return NONE;
            }
            if (p >= FISH_SIGNS || text.at(p) != ';') {
                return p;
            }
            p++;
        }
        return p;
    }

    private int addFish() {
        int lines = 0;
        for (int p = 0; p < text.length() && school.size < MOST_FISH; p += 3) {
            now.welcome(school.size);
            school.add(kindOf(text.at(p)), text.digit(p + 1));
            lines++;
        }
        return lines;
    }

    /** The place of the first sign that can't stand in a text of THE OAR, or NONE. */
    private int oarFault() {
        int p = 0;
        for (int line = 0; line < OAR_LINES; line++) {
            if (!canBePromised(text.digit(p))) {
                return p;
            }
            int row = text.digit(p + 1);
            if (row < 0 || row >= water.rows) {
                return p + 1;
            }
            int column = text.digit(p + 2);
            if (column < 0 || column >= water.columns) {
                return p + 2;
            }
            if (text.digit(p + 3) < 0) {
                return p + 3;
            }
            p += 4;
            if (p == text.length()) {
                return NONE;
            }
            if (text.at(p) != ';') {
                return p;
            }
            p++;
        }
        return p;
    }

    private int addPromises() {
        int lines = 0;
        for (int p = 0; p < text.length(); p += 5) {
            int goal = water.fieldAt(text.digit(p + 1), text.digit(p + 2));
            makePromise(now, text.digit(p), goal, text.digit(p + 3));
            lines++;
        }
        return lines;
    }

    /** How many digits stand behind the letter of an act; NONE for no such letter. */
    private static int digitsBehind(int sign) {
        switch (sign) {
            case 'p': return 4;
            case 'n':
            case 't':
            case 'l':
            case 'b': return 1;
            default: return NONE;
        }
    }

    /** The place of the first sign that can't stand in a text of A DAY, or NONE. */
    private int dayFault() {
        for (int p = 0; p < text.length(); p++) {
            int letter = text.at(p);
            int digits = digitsBehind(letter);
            if (p >= DAY_SIGNS || digits == NONE) {
                return p;
            }
            int least = letter == 'b' ? 1 : 0;
            for (int left = digits; left > 0; left--) {
                p++;
                if (p >= DAY_SIGNS || text.digit(p) < least) {
                    return p;
                }
            }
        }
        return NONE;
    }

    private int doAct(int p) {
        int number = text.digit(p + 1);
        switch (text.at(p)) {
            case 'n': return passHours(number);
            case 'p': return makePromise(now, number, water.fieldAt(text.digit(p + 2), text.digit(p + 3)), text.digit(p + 4));
            case 't': return dropPromise(number);
            case 'l': return turnHold(now, number);
            case 'b': return addCrumbs(number);
            default: return NONE;
        }
    }

    // ---- acts, which answer below 0 and change nothing if they are refused

    private int noted(int answer) {
        if (answer >= 0) {
            past.push(before);
        }
        return answer;
    }

    private int passHours(int n) {
        if (n < 0 || n > 60) {
            return NONE;
        }
        trip.pass(now, pulling, n);
        return now.boat;
    }

    private boolean canBePromised(int fish) {
        return school.has(fish) && school.kind[fish] != EEL && now.trust[fish] > 0;
    }

    private int makePromise(State state, int fish, int field, int n) {
        if (!school.has(fish) || !water.has(field) || n < 0 || n > MOST_CRUMBS) {
            return NONE;
        }
        if (school.kind[fish] == EEL) {
            return -3;
        }
        if (state.trust[fish] == 0) {
            return -4;
        }
        state.goal[fish] = field;
        state.crumbs[fish] = n;
        return Integer.bitCount(state.promised(school.size));
    }

    private int dropPromise(int fish) {
        if (!school.has(fish)) {
            return NONE;
        }
        if (now.goal[fish] == NONE) {
            return -2;
        }
        now.goal[fish] = NONE;
        now.trust[fish] = Math.max(0, now.trust[fish] - 3);
        return now.trust[fish];
    }

    private int turnHold(State state, int fish) {
        if (!school.has(fish)) {
            return NONE;
        }
        state.held ^= 1 << fish;
        return Integer.bitCount(state.held);
    }

    private int addCrumbs(int n) {
        if (n < 1 || n > MOST_STORE) {
            return NONE;
        }
        if (now.store + n > MOST_STORE) {
            return -3;
        }
        now.store += n;
        return now.store;
    }

    // ---- whom to promise

    private boolean canBeAskedFor(int field, int n) {
        return water.has(field) && n >= 1 && n <= 20;
    }

    /** The fewest FISH, then the least bits, to be promised a FIELD so that BOAT comes there; NONE: none. */
    private int fewestBy(int field, int c, int n, int room) {
        water.measureFrom(now.boat);
        int steps = water.stepsTo(field);
        if (steps == NONE || steps > n) {
            return NONE;
        }
        int able = 0;
        for (int i = 0; i < school.size; i++) {
            able |= canBePromised(i) ? 1 << i : 0;
        }
        for (int size = 0; size <= room && size <= Integer.bitCount(able); size++) {
            for (int set = 0; set <= able; set++) {
                boolean isOne = (set & ~able) == 0 && Integer.bitCount(set) == size;
                if (isOne && arrivesBy(set, field, c, n) != NONE) {
                    return set;
                }
            }
        }
        return NONE;
    }

    /** In how many HOURS BOAT (of the trial) is on a FIELD if a set of FISH is promised it; NONE: not in n. */
    private int arrivesBy(int set, int field, int c, int n) {
        trial.copy(now);
        for (int i = 0; i < school.size; i++) {
            if ((set >>> i & 1) == 1) {
                trial.goal[i] = field;
                trial.crumbs[i] = c;
            }
        }
        for (int hour = 0; hour <= n; hour++) {
            if (trial.boat == field) {
                return hour;
            }
            // BOAT goes one FIELD an HOUR at most.
            if (water.gap(trial.boat, field) > n - hour) {
                return NONE;
            }
            trip.pass(trial, pulling, 1);
        }
        return NONE;
    }

    // ---- tugs, who let go

    /** The way BOAT goes if a set of FISH alone pulls, as they were measured. */
    private int goesWith(int set) {
        tug.weigh(set);
        return tug.goesFrom(now.boat);
    }

    /** Notes where BOAT is in the next HOURS if a FISH has let go (MOST_FISH: none has). */
    private void follow(int fish) {
        trial.copy(now);
        if (school.has(fish)) {
            trial.held &= ~(1 << fish);
        }
        if (fish >= 0 && fish < places.length) {
            for (int hour = 0; hour <= SIGHT_HOURS; hour++) {
                places[fish][hour] = trial.boat;
                trip.pass(trial, pulling, 1);
            }
        }
    }

    private int fitting() {
        int set = 0;
        for (int i = 0; i < school.size; i++) {
            if (now.holds(i)) {
                follow(i);
                set |= sights.agreeWith(places[i]) ? 1 << i : 0;
            }
        }
        return set;
    }

    /** The most FISH of a set by which BOAT is on one and the same FIELD in an HOUR. */
    private int mostTogether(int set, int hour) {
        int most = 0;
        for (int i = 0; i < school.size; i++) {
            int like = 0;
            for (int j = 0; j < school.size; j++) {
                boolean both = (set >>> i & 1) == 1 && (set >>> j & 1) == 1;
                if (both && places[i][hour] == places[j][hour]) {
                    like++;
                }
            }
            most = Math.max(most, like);
        }
        return most;
    }

    // ---- chance, games

    private static long power(int base, int exponent) {
        long product = 1;
        for (int i = 0; i < exponent; i++) {
            product *= base;
        }
        return product;
    }

    /** The greatest common divisor, at least 1, of which the second is above 0. */
    private static long sharedDivisor(long a, long b) {
        long x = a;
        long y = b;
        for (int i = 0; i < 200 && x != 0; i++) {
            long rest = y % x;
            y = x;
            x = rest;
        }
        return y > 0 ? y : 1;
    }

    /** Whether who eats some of m crumbs leaves a number with which the other one loses. */
    private static boolean leaves(long winning, int m, int eaten) {
        return eaten <= m && (winning >>> (m - eaten) & 1) == 0;
    }

    private static int gain(int mine, int others, int v) {
        if (mine > others) {
            return v - mine;
        }
        if (mine == others) {
            return v / 2 - mine / 2;
        }
        return mine > 0 ? -1 : 0;
    }

    private static boolean isContent(int mine, int others, int v) {
        for (int z = 0; z <= MOST_CRUMBS; z++) {
            if (gain(z, others, v) > gain(mine, others, v)) {
                return false;
            }
        }
        return true;
    }

    private static int nextDraw(int r) {
        return r * 1103515245 + 12345;
    }

    private static int drawn(int r, int n) {
        return n > 0 ? (r >>> 16) % n : 0;
    }

    /** A promise (2) or a turned hold (3) that draws tell; the latest draw. */
    private int drawAct(int last, int what) {
        int r = nextDraw(last);
        int fish = drawn(r, school.size);
        if (what == 3) {
            turnHold(trial, fish);
            return r;
        }
        r = nextDraw(r);
        int field = drawn(r, water.fields());
        r = nextDraw(r);
        makePromise(trial, fish, field, drawn(r, 4));
        return r;
    }

    /** THE TEXT. */
    private static final class Text {
        private static final int MOST = 80;
        private final char[] signs = new char[MOST];
        private int size = 0;

        int length() {
            return size;
        }

        boolean append(int v) {
            if (size + 4 > MOST) {
                return false;
            }
            for (int shift = 24; shift >= 0; shift -= 8) {
                signs[size] = (char) (v >>> shift & 255);
                size++;
            }
            return true;
        }

        boolean shorten(int n) {
            if (n < 0 || n > size) {
                return false;
            }
            size = n;
            return true;
        }

        void clear() {
            size = 0;
        }

        /** The sign at a place; NONE at and behind the end. */
        int at(int place) {
            return place >= 0 && place < size ? signs[place] : NONE;
        }

        /** The digit at a place; NONE for another sign or none. */
        int digit(int place) {
            int sign = at(place);
            return sign >= '0' && sign <= '9' ? sign - '0' : NONE;
        }
    }

    /** The ROW. */
    private static final class Told {
        private final long[] numbers = new long[MOST_FIELDS + 1];
        private int size = 0;

        void start() {
            size = 0;
        }

        void add(long number) {
            if (size < numbers.length) {
                numbers[size] = number;
                size++;
            }
        }
    }

    /** THE LAKE, with the steps over its water. */
    private static final class Lake {
        private int rows = 2;
        private int columns = 2;
        private final boolean[] rock = new boolean[MOST_FIELDS];
        private final int[] steps = new int[MOST_FIELDS];
        private final int[] queue = new int[MOST_FIELDS];

        /** The place of the first sign that can't stand in a text of a lake, or NONE. */
        int faultIn(Text text) {
            int down = text.digit(0);
            if (down < 2 || down > 6) {
                return 0;
            }
            int across = text.digit(1);
            if (across < 2 || across > 6) {
                return 1;
            }
            int end = 2 + down * across;
            for (int p = 2; p < end; p++) {
                if (text.at(p) != '.' && text.at(p) != '#') {
                    return p;
                }
            }
            return text.length() > end ? end : NONE;
        }

        void take(Text text) {
            rows = text.digit(0);
            columns = text.digit(1);
            for (int field = 0; field < MOST_FIELDS; field++) {
                rock[field] = text.at(2 + field) == '#';
            }
        }

        int fields() {
            return rows * columns;
        }

        boolean has(int field) {
            return field >= 0 && field < fields() && field < MOST_FIELDS;
        }

        boolean isRock(int field) {
            return has(field) && rock[field];
        }

        int rowOf(int field) {
            return columns > 0 ? field / columns : 0;
        }

        int columnOf(int field) {
            return columns > 0 ? field % columns : 0;
        }

        int fieldAt(int row, int column) {
            boolean inside = row >= 0 && row < rows && column >= 0 && column < columns;
            return inside ? row * columns + column : NONE;
        }

        int beside(int field, int way) {
            int down = way == 0 ? -1 : way == 2 ? 1 : 0;
            int right = way == 1 ? 1 : way == 3 ? -1 : 0;
            return fieldAt(rowOf(field) + down, columnOf(field) + right);
        }

        /** ROWS and COLUMNS between two FIELDS, added. */
        int gap(int a, int b) {
            return Math.abs(rowOf(a) - rowOf(b)) + Math.abs(columnOf(a) - columnOf(b));
        }

        boolean isDiagonal(int a, int b) {
            return Math.abs(rowOf(a) - rowOf(b)) == Math.abs(columnOf(a) - columnOf(b));
        }

        /** Counts the steps to all FIELDS of water from one, which counts as water. */
        void measureFrom(int start) {
            Arrays.fill(steps, NONE);
            if (!has(start)) {
                return;
            }
            int size = 1;
            queue[0] = start;
            steps[start] = 0;
            for (int i = 0; i < size && i < MOST_FIELDS; i++) {
                for (int way = 0; way < 4; way++) {
                    int next = beside(queue[i], way);
                    if (has(next) && !rock[next] && steps[next] == NONE && size < MOST_FIELDS) {
                        steps[next] = steps[queue[i]] + 1;
                        queue[size] = next;
                        size++;
                    }
                }
            }
        }

        int stepsTo(int field) {
            return has(field) ? steps[field] : NONE;
        }

        /** The least FIELD beside one that has so many steps left; NONE: none. */
        int nextBy(int field, int left) {
            int least = NONE;
            for (int way = 0; way < 4; way++) {
                int next = beside(field, way);
                if (stepsTo(next) == left && next != NONE && (least == NONE || next < least)) {
                    least = next;
                }
            }
            return least;
        }
    }

    /** What FISH are by nature, which undo() leaves alone. */
    private static final class School {
        private final int[] kind = new int[MOST_FISH];
        private final int[] strength = new int[MOST_FISH];
        private int size = 0;

        boolean has(int fish) {
            return fish >= 0 && fish < size && fish < MOST_FISH;
        }

        void add(int itsKind, int itsStrength) {
            if (size < MOST_FISH) {
                kind[size] = itsKind;
                strength[size] = itsStrength;
                size++;
            }
        }

        /** Sets all STRENGTHS by a sheet of n entries: their sum. */
        int strengthen(int n, int width, int f, int step) {
            int sum = 0;
            int entry = f;
            for (int i = 0; i < size; i++) {
                int value = width == 0 ? (byte) entry : width == 1 ? (short) entry : entry;
                strength[i] = i < n ? Math.max(1, Math.min(9, value)) : 1;
                sum += strength[i];
                entry += step;
            }
            return sum;
        }
    }

    /** What undo() brings back. */
    private static final class State {
        private int boat = 0;
        private int store = 20;
        private int kept = 0;
        private int broken = 0;
        private int hour = 0;
        /** FISH HOLDING (bits). */
        private int held = 0;
        private final int[] tired = new int[MOST_FISH];
        private final int[] trust = new int[MOST_FISH];
        private final int[] goal = new int[MOST_FISH];
        private final int[] crumbs = new int[MOST_FISH];

        void copy(State from) {
            boat = from.boat;
            store = from.store;
            kept = from.kept;
            broken = from.broken;
            hour = from.hour;
            held = from.held;
            System.arraycopy(from.tired, 0, tired, 0, MOST_FISH);
            System.arraycopy(from.trust, 0, trust, 0, MOST_FISH);
            System.arraycopy(from.goal, 0, goal, 0, MOST_FISH);
            System.arraycopy(from.crumbs, 0, crumbs, 0, MOST_FISH);
        }

        /** A FISH as it is when it comes. */
        void welcome(int fish) {
            if (fish >= 0 && fish < MOST_FISH) {
                tired[fish] = 0;
                trust[fish] = 5;
                goal[fish] = NONE;
                crumbs[fish] = 0;
                held |= 1 << fish;
            }
        }

        int promised(int size) {
            int set = 0;
            for (int i = 0; i < size && i < MOST_FISH; i++) {
                set |= goal[i] != NONE ? 1 << i : 0;
            }
            return set;
        }

        boolean holds(int fish) {
            return (held >>> fish & 1) == 1;
        }

        int crumbsOf(int set, int size) {
            int sum = 0;
            for (int i = 0; i < size && i < MOST_FISH; i++) {
                sum += (set >>> i & 1) == 1 ? crumbs[i] : 0;
            }
            return sum;
        }
    }

    /** FOG. */
    private static final class Fog {
        private static final int MOST = 20;
        private final int[] digits = new int[MOST];
        private int size = 1;

        /** The place of the first sign that can't stand in a text of FOG, or NONE. */
        int faultIn(Text text) {
            for (int p = 0; p < MOST && (p == 0 || p < text.length()); p++) {
                if (text.digit(p) == NONE) {
                    return p;
                }
            }
            return text.length() > MOST ? MOST : NONE;
        }

        void take(Text text) {
            size = Math.max(1, Math.min(MOST, text.length()));
            for (int i = 0; i < size; i++) {
                digits[i] = text.digit(i);
            }
        }

        int in(int hour) {
            return size > 0 ? digits[Math.floorMod(hour, size)] : 0;
        }
    }

    /** A RULE, held as things and signs in the order in which they are reckoned. */
    private static final class Rule {
        private static final int MOST = 40;
        private static final int DEEPEST = 4;
        private static final int NUMBER_DIGITS = 3;
        /** Codes below LETTER are numbers, below SIGN letters; TURN is a minus ahead of a thing. */
        private static final int LETTER = 1000;
        private static final int SIGN = 2000;
        private static final int TURN = 3000;
        private static final int[] PLAIN = {LETTER, LETTER + 1, SIGN + '-', LETTER + 2, LETTER + 3, SIGN + '>', SIGN + '+'};
        private static final String LETTERS = "sdcufnkg";
        /** Where each letter's number stands in a key, and its bits. */
        private static final int[] SHIFTS = {0, 4, 8, 12, 16, 20, 23, 25};
        private static final int[] MASKS = {15, 15, 15, 15, 15, 7, 3, 15};
        private static final int CRUMBS_LETTER = 2;
        /** PULLS that were reckoned are noted: the searches ask for the same ones over and over. */
        private static final int NOTES_BITS = 10;

        private final int[] code = new int[MOST];
        private int size = 0;
        private final int[] stack = new int[MOST];
        private final int[] waiting = new int[MOST];
        private int waits = 0;
        private int depth = 0;
        private int compared = 0;
        private int digits = 0;
        private boolean wantsThing = true;
        private final int[] noteKeys = new int[1 << NOTES_BITS];
        private final byte[] notes = new byte[1 << NOTES_BITS];

        Rule() {
            plain();
        }

        private void plain() {
            System.arraycopy(PLAIN, 0, code, 0, PLAIN.length);
            size = PLAIN.length;
            Arrays.fill(noteKeys, NONE);
        }

        /** Reads a text as a rule: the place of the first sign that can't stand, or NONE. */
        int read(Text text) {
            size = 0;
            waits = 0;
            depth = 0;
            compared = 0;
            digits = 0;
            wantsThing = true;
            int length = Math.min(MOST, text.length());
            for (int p = 0; p < length; p++) {
                boolean stands = wantsThing ? takeThing(text.at(p)) : takeBehind(text.at(p));
                if (!stands) {
                    return p;
                }
            }
            if (text.length() == 0) {
                plain();
                return NONE;
            }
            if (text.length() > MOST || wantsThing || depth > 0) {
                return length;
            }
            settle(0);
            Arrays.fill(noteKeys, NONE);
            return NONE;
        }

        private boolean takeThing(int sign) {
            if (sign == '-') {
                await(TURN);
                return true;
            }
            if (sign == '(') {
                depth++;
                compared &= ~(1 << depth);
                await(sign);
                return depth <= DEEPEST;
            }
            int letter = LETTERS.indexOf((char) sign);
            boolean isDigit = sign >= '0' && sign <= '9';
            if (isDigit) {
                emit(sign - '0');
            } else if (letter >= 0) {
                emit(LETTER + letter);
            }
            digits = isDigit ? 1 : 0;
            wantsThing = !isDigit && letter < 0;
            return !wantsThing;
        }

        private boolean takeBehind(int sign) {
            if (sign >= '0' && sign <= '9') {
                return takeDigit(sign - '0');
            }
            digits = 0;
            if (sign == ')') {
                return closeOne();
            }
            int binds = bindingOf(sign);
            if (binds == 0 || binds == 1 && (compared >>> depth & 1) == 1) {
                return false;
            }
            compared |= binds == 1 ? 1 << depth : 0;
            settle(binds);
            await(SIGN + sign);
            wantsThing = true;
            return true;
        }

        private boolean takeDigit(int digit) {
            if (digits == 0 || digits == NUMBER_DIGITS || size == 0) {
                return false;
            }
            digits++;
            code[size - 1] = code[size - 1] * 10 + digit;
            return true;
        }

        private boolean closeOne() {
            if (depth == 0) {
                return false;
            }
            settle(0);
            waits--;
            depth--;
            return true;
        }

        /** How tight a sign between two things binds; 0: it is none. */
        private static int bindingOf(int sign) {
            switch (sign) {
                case '<':
                case '>':
                case '=': return 1;
                case '+':
                case '-': return 2;
                case '*':
                case '/': return 3;
                default: return 0;
            }
        }

        private void emit(int thing) {
            if (size < MOST) {
                code[size] = thing;
                size++;
            }
        }

        private void await(int sign) {
            if (waits < MOST) {
                waiting[waits] = sign;
                waits++;
            }
        }

        /** Signs that wait are reckoned now, back to a bracket, if they bind as tight or tighter. */
        private void settle(int binds) {
            while (waits > 0 && waiting[waits - 1] != '(') {
                int sign = waiting[waits - 1];
                if (sign != TURN && bindingOf(sign - SIGN) < binds) {
                    return;
                }
                emit(sign);
                waits--;
            }
        }

        boolean asksForCrumbs() {
            for (int i = 0; i < size; i++) {
                if (code[i] == LETTER + CRUMBS_LETTER) {
                    return true;
                }
            }
            return false;
        }

        /** PULL for the numbers that a key holds. */
        int pullBy(int key) {
            int slot = key * 0x9E3779B1 >>> 32 - NOTES_BITS;
            if (noteKeys[slot] != key) {
                noteKeys[slot] = key;
                notes[slot] = (byte) Math.max(0, Math.min(9, reckon(key)));
            }
            return notes[slot];
        }

        private int reckon(int key) {
            int top = 0;
            for (int i = 0; i < size && top < MOST; i++) {
                int next = code[i];
                if (next < LETTER) {
                    stack[top] = next;
                    top++;
                } else if (next < SIGN) {
                    int letter = next - LETTER & 7;
                    stack[top] = key >>> SHIFTS[letter] & MASKS[letter];
                    top++;
                } else if (next == TURN && top > 0) {
                    stack[top - 1] = -stack[top - 1];
                } else if (top > 1) {
                    top--;
                    stack[top - 1] = joined(next - SIGN, stack[top - 1], stack[top]);
                }
            }
            return stack[0];
        }

        private static int joined(int sign, int a, int b) {
            switch (sign) {
                case '<': return a < b ? 1 : 0;
                case '>': return a > b ? 1 : 0;
                case '=': return a == b ? 1 : 0;
                case '+': return a + b;
                case '-': return a - b;
                case '*': return a * b;
                default: return b == 0 ? 0 : a / b;
            }
        }
    }

    /** How hard and which way FISH pull in an HOUR. */
    private static final class Tug {
        private final Lake lake;
        private final School school;
        private final Fog fog;
        private final int[] pull = new int[MOST_FISH];
        private final int[] firstWay = new int[MOST_FISH];
        /** The other way of a shoal that pulls both ways, else NONE. */
        private final int[] secondWay = new int[MOST_FISH];
        private final int[] net = new int[4];

        Tug(Lake lake, School school, Fog fog) {
            this.lake = lake;
            this.school = school;
            this.fog = fog;
        }

        void measure(State state, Rule rule) {
            int weather = fog.in(state.hour) << 16 | Math.floorMod(state.hour, 7) << 20;
            for (int i = 0; i < school.size; i++) {
                pull[i] = 0;
                int goal = state.goal[i];
                if (goal == NONE || goal == state.boat || !state.holds(i)) {
                    continue;
                }
                int down = lake.rowOf(goal) - lake.rowOf(state.boat);
                int right = lake.columnOf(goal) - lake.columnOf(state.boat);
                int far = Math.abs(down) + Math.abs(right);
                int key = school.strength[i] | state.tired[i] << 4 | state.crumbs[i] << 8 | state.trust[i] << 12
                        | weather | school.kind[i] << 23 | far << 25;
                pull[i] = rule.pullBy(key);
                head(i, down, right);
            }
        }

        private void head(int fish, int down, int right) {
            int upright = down < 0 ? 0 : 2;
            int level = right < 0 ? 3 : 1;
            int more = Math.abs(down) - Math.abs(right);
            int turned = school.kind[fish] == PIKE ? 2 : 0;
            firstWay[fish] = (more >= 0 ? upright : level) + turned & 3;
            secondWay[fish] = more == 0 && school.kind[fish] == SHOAL ? level : NONE;
        }

        int headingOf(int fish) {
            if (!school.has(fish) || pull[fish] == 0) {
                return NONE;
            }
            return secondWay[fish] == NONE ? firstWay[fish] : BOTH_WAYS;
        }

        int pullers() {
            int set = 0;
            for (int i = 0; i < school.size; i++) {
                set |= pull[i] > 0 ? 1 << i : 0;
            }
            return set;
        }

        int pullOf(int set) {
            int sum = 0;
            for (int i = 0; i < school.size; i++) {
                sum += (set >>> i & 1) == 1 ? pull[i] : 0;
            }
            return sum;
        }

        /** Reckons what each way has if a set of FISH alone pulls. */
        void weigh(int set) {
            Arrays.fill(net, 0);
            for (int i = 0; i < school.size; i++) {
                if ((set >>> i & 1) == 0 || pull[i] == 0) {
                    continue;
                }
                if (secondWay[i] == NONE) {
                    addTo(firstWay[i], pull[i]);
                } else {
                    addTo(firstWay[i], pull[i] / 2);
                    addTo(secondWay[i], pull[i] / 2);
                }
            }
        }

        private void addTo(int way, int much) {
            net[way & 3] += much;
            net[way + 2 & 3] -= much;
        }

        /** The way BOAT goes from a FIELD by what was weighed, or STUCK. */
        int goesFrom(int boat) {
            int best = STUCK;
            int most = 0;
            for (int way = 0; way < 4; way++) {
                if (net[way] > most) {
                    most = net[way];
                    best = way;
                }
            }
            if (best == STUCK) {
                return STUCK;
            }
            int to = lake.beside(boat, best);
            return to == NONE || lake.isRock(to) ? STUCK : best;
        }
    }

    /** HOURS that pass, and what came of them. */
    private static final class Trip {
        private final Lake lake;
        private final School school;
        private final Tug tug;
        private int kept = 0;
        private int broken = 0;
        private int stuck = 0;
        private int keptSet = 0;
        private int brokenSet = 0;

        Trip(Lake lake, School school, Tug tug) {
            this.lake = lake;
            this.school = school;
            this.tug = tug;
        }

        /** Lets n HOURS pass and counts anew. */
        void pass(State state, Rule rule, int n) {
            kept = 0;
            broken = 0;
            stuck = 0;
            keptSet = 0;
            brokenSet = 0;
            for (int i = 0; i < n; i++) {
                tug.measure(state, rule);
                tug.weigh(EVERYONE);
                move(state, tug.goesFrom(state.boat));
                for (int fish = 0; fish < school.size; fish++) {
                    tire(state, fish);
                    if (state.goal[fish] == state.boat) {
                        reward(state, fish);
                    }
                }
                state.hour++;
            }
        }

        private void move(State state, int way) {
            if (way == STUCK) {
                stuck++;
            } else {
                state.boat = lake.beside(state.boat, way);
            }
        }

        private void tire(State state, int fish) {
            int more = tug.pull[fish] > 0 ? 1 : -1;
            state.tired[fish] = Math.max(0, Math.min(9, state.tired[fish] + more));
        }

        private void reward(State state, int fish) {
            if (state.store >= state.crumbs[fish]) {
                state.store -= state.crumbs[fish];
                state.kept = Math.min(MOST_COUNTED, state.kept + 1);
                state.trust[fish] = Math.min(9, state.trust[fish] + 1);
                kept++;
                keptSet |= 1 << fish;
            } else {
                state.broken = Math.min(MOST_COUNTED, state.broken + 1);
                state.trust[fish] = 0;
                broken++;
                brokenSet |= 1 << fish;
            }
            state.goal[fish] = NONE;
        }
    }

    /** States that undo() brings back, the latest ones. */
    private static final class Past {
        private static final int MOST = 15;
        private final State[] states = new State[MOST];
        private int next = 0;
        private int size = 0;

        Past() {
            for (int i = 0; i < MOST; i++) {
                states[i] = new State();
            }
        }

        void clear() {
            size = 0;
        }

        void push(State state) {
            states[next].copy(state);
            next = (next + 1) % MOST;
            size = Math.min(MOST, size + 1);
        }

        boolean pop(State into) {
            if (size == 0) {
                return false;
            }
            next = (next + MOST - 1) % MOST;
            size--;
            into.copy(states[next]);
            return true;
        }
    }

    /** Where BOAT was seen. */
    private static final class Sights {
        private static final int MOST = 10;
        private final int[] hours = new int[MOST];
        private final int[] fields = new int[MOST];
        private final boolean[] there = new boolean[MOST];
        private int size = 0;

        boolean add(int hour, int field, boolean isThere) {
            if (size >= MOST) {
                return false;
            }
            hours[size] = hour;
            fields[size] = field;
            there[size] = isThere;
            size++;
            return true;
        }

        void clear() {
            size = 0;
        }

        /** Whether all is as it was seen if BOAT is at these places hour by hour. */
        boolean agreeWith(int[] places) {
            for (int i = 0; i < size; i++) {
                int hour = hours[i];
                if (hour < 0 || hour >= places.length || places[hour] == fields[i] != there[i]) {
                    return false;
                }
            }
            return true;
        }
    }
}
