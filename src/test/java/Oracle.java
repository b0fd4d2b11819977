import java.math.BigInteger;
import java.util.ArrayDeque;
import java.util.ArrayList;
import java.util.Arrays;
import java.util.Deque;
import java.util.HashMap;
import java.util.List;
import java.util.Map;

/** The document written down a second time, slowly and simply, to hold FishFerry against. */
final class Oracle {
    static final long THROWS = Long.MIN_VALUE;

    static final class Fish implements Cloneable {
        int kind;
        int strength;
        int tired = 0;
        int trust = 5;
        boolean holds = true;
        int goal = -1;
        int crumbs = -1;

        Fish(int kind, int strength) {
            this.kind = kind;
            this.strength = strength;
        }

        Fish twin() {
            try {
                return (Fish) clone();
            } catch (CloneNotSupportedException e) {
                throw new IllegalStateException(e);
            }
        }
    }

    /** A world that can be copied whole, so that questions try things on a copy. */
    static final class World {
        int boat = 0;
        int store = 20;
        int kept = 0;
        int broken = 0;
        int hour = 0;
        List<Fish> fish = new ArrayList<>();
        String rule = "";
        int stuck = 0;
        int keptNow = 0;
        int brokenNow = 0;
        int keptSet = 0;
        int brokenSet = 0;

        World twin() {
            World w = new World();
            w.boat = boat;
            w.store = store;
            w.kept = kept;
            w.broken = broken;
            w.hour = hour;
            w.rule = rule;
            for (Fish f : fish) {
                w.fish.add(f.twin());
            }
            return w;
        }
    }

    static final class Bad extends RuntimeException {
        private static final long serialVersionUID = 1L;
        final int place;

        Bad(int place) {
            this.place = place;
        }
    }

    String text = "";
    int rows = 2;
    int columns = 2;
    String lake = "....";
    String fog = "0";
    World now = new World();
    Deque<World> undos = new ArrayDeque<>();
    Map<Integer, World> stored = new HashMap<>();
    List<int[]> sights = new ArrayList<>();
    List<Long> row = new ArrayList<>();

    // ---- the rule, read by going down its grammar

    final class Reader {
        final String t;
        final World w;
        final Fish f;
        int p = 0;
        int depth = 0;

        Reader(String t, World w, Fish f) {
            this.t = t;
            this.w = w;
            this.f = f;
        }

        char sign() {
            return p < Math.min(40, t.length()) ? t.charAt(p) : (char) 0xFFFF;
        }

        int whole() {
            int v = expression();
            if (p < t.length()) {
                throw new Bad(p);
            }
            return v;
        }

        int expression() {
            int a = sum();
            char c = sign();
            if (c != '<' && c != '>' && c != '=') {
                return a;
            }
            p++;
            int b = sum();
            boolean so = c == '<' ? a < b : c == '>' ? a > b : a == b;
            return so ? 1 : 0;
        }

        int sum() {
            int a = product();
            while (sign() == '+' || sign() == '-') {
                char c = sign();
                p++;
                int b = product();
                a = c == '+' ? a + b : a - b;
            }
            return a;
        }

        int product() {
            int a = thing();
            while (sign() == '*' || sign() == '/') {
                char c = sign();
                p++;
                int b = thing();
                a = c == '*' ? a * b : b == 0 ? 0 : a / b;
            }
            return a;
        }

        int thing() {
            char c = sign();
            if (c == '-') {
                p++;
                return -thing();
            }
            if (c == '(') {
                if (depth == 4) {
                    throw new Bad(p);
                }
                p++;
                depth++;
                int v = expression();
                if (sign() != ')') {
                    throw new Bad(p);
                }
                p++;
                depth--;
                return v;
            }
            if (c >= '0' && c <= '9') {
                int from = p;
                while (p - from < 3 && sign() >= '0' && sign() <= '9') {
                    p++;
                }
                return Integer.parseInt(t.substring(from, p));
            }
            if ("sdcufnkg".indexOf(c) < 0) {
                throw new Bad(p);
            }
            p++;
            return letter(c);
        }

        int letter(char c) {
            if (f == null) {
                return 1;
            }
            switch (c) {
                case 's': return f.strength;
                case 'd': return f.tired;
                case 'c': return f.crumbs;
                case 'u': return f.trust;
                case 'f': return fogAt(w.hour);
                case 'n': return w.hour % 7;
                case 'k': return f.kind;
                default: return gap(w.boat, f.goal);
            }
        }
    }

    int ruleFault(String t) {
        if (t.isEmpty()) {
            return -1;
        }
        try {
            new Reader(t, null, null).whole();
            return -1;
        } catch (Bad b) {
            return b.place;
        }
    }

    int fogAt(int hour) {
        return fog.charAt(hour % fog.length()) - '0';
    }

    int gap(int a, int b) {
        return Math.abs(a / columns - b / columns) + Math.abs(a % columns - b % columns);
    }

    int pull(World w, Fish f) {
        if (f.goal < 0 || !f.holds || f.goal == w.boat) {
            return 0;
        }
        int v = new Reader(w.rule.isEmpty() ? "s-d+(c>u)" : w.rule, w, f).whole();
        return v < 0 ? 0 : v > 9 ? 9 : v;
    }

    /** The ways a fish pulls: none, one, or two. */
    int[] ways(World w, Fish f) {
        if (pull(w, f) == 0) {
            return new int[0];
        }
        int dr = f.goal / columns - w.boat / columns;
        int dc = f.goal % columns - w.boat % columns;
        int vertical = dr < 0 ? 0 : 2;
        int horizontal = dc > 0 ? 1 : 3;
        if (f.kind == 3 && Math.abs(dr) == Math.abs(dc)) {
            return new int[] {vertical, horizontal};
        }
        int way = Math.abs(dr) >= Math.abs(dc) ? vertical : horizontal;
        return new int[] {f.kind == 1 ? (way + 2) % 4 : way};
    }

    int[] nets(World w, int set) {
        int[] has = new int[4];
        for (int i = 0; i < w.fish.size(); i++) {
            if ((set >> i & 1) == 1) {
                Fish f = w.fish.get(i);
                int[] ws = ways(w, f);
                for (int way : ws) {
                    has[way] += pull(w, f) / ws.length;
                }
            }
        }
        return new int[] {has[0] - has[2], has[1] - has[3], has[2] - has[0], has[3] - has[1]};
    }

    int goes(World w, int set) {
        int[] net = nets(w, set);
        int most = Arrays.stream(net).max().getAsInt();
        if (most <= 0) {
            return -2;
        }
        for (int way = 0; way < 4; way++) {
            if (net[way] == most) {
                int r = w.boat / columns + new int[] {-1, 0, 1, 0}[way];
                int c = w.boat % columns + new int[] {0, 1, 0, -1}[way];
                boolean in = r >= 0 && c >= 0 && r < rows && c < columns;
                return in && lake.charAt(r * columns + c) == '.' ? way : -2;
            }
        }
        return -2;
    }

    void anHour(World w) {
        int way = goes(w, 255);
        boolean[] pulled = new boolean[8];
        for (int i = 0; i < w.fish.size(); i++) {
            pulled[i] = pull(w, w.fish.get(i)) > 0;
        }
        if (way < 0) {
            w.stuck++;
        } else {
            w.boat += new int[] {-columns, 1, columns, -1}[way];
        }
        for (int i = 0; i < w.fish.size(); i++) {
            Fish f = w.fish.get(i);
            f.tired = pulled[i] ? Math.min(9, f.tired + 1) : Math.max(0, f.tired - 1);
        }
        for (int i = 0; i < w.fish.size(); i++) {
            Fish f = w.fish.get(i);
            if (f.goal == w.boat) {
                if (w.store >= f.crumbs) {
                    w.store -= f.crumbs;
                    w.kept = Math.min(999, w.kept + 1);
                    f.trust = Math.min(9, f.trust + 1);
                    w.keptNow++;
                    w.keptSet |= 1 << i;
                } else {
                    w.broken = Math.min(999, w.broken + 1);
                    f.trust = 0;
                    w.brokenNow++;
                    w.brokenSet |= 1 << i;
                }
                f.goal = -1;
                f.crumbs = -1;
            }
        }
        w.hour++;
    }

    World after(World w, int n) {
        World t = w.twin();
        for (int i = 0; i < n; i++) {
            anHour(t);
        }
        return t;
    }

    void tell(long... numbers) {
        row = new ArrayList<>();
        for (long n : numbers) {
            row.add(n);
        }
    }

    String read() {
        String t = text;
        text = "";
        return t;
    }

    // ---- the face

    long sign(int v) {
        if (text.length() > 76) {
            return -1;
        }
        for (int i = 3; i >= 0; i--) {
            text += (char) (v >> 8 * i & 255);
        }
        return text.length();
    }

    long end(int n) {
        if (n < 0 || n > text.length()) {
            return 0;
        }
        text = text.substring(0, n);
        return 1;
    }

    long lake() {
        String t = read();
        for (int p = 0; p < 2; p++) {
            if (p >= t.length() || t.charAt(p) < '2' || t.charAt(p) > '6') {
                return -1 - p;
            }
        }
        int r = t.charAt(0) - '0';
        int c = t.charAt(1) - '0';
        for (int p = 2; p < 2 + r * c; p++) {
            if (p >= t.length() || ".#".indexOf(t.charAt(p)) < 0) {
                return -1 - p;
            }
        }
        if (t.length() > 2 + r * c) {
            return -1 - (2 + r * c);
        }
        rows = r;
        columns = c;
        lake = t.substring(2);
        now.boat = 0;
        now.hour = 0;
        now.fish.clear();
        undos.clear();
        stored.clear();
        sights.clear();
        return r * c;
    }

    long fish() {
        String t = read();
        if (t.isEmpty()) {
            return 0;
        }
        List<Fish> more = new ArrayList<>();
        int p = 0;
        while (true) {
            if (now.fish.size() + more.size() == 8 || p >= t.length() || "tpes".indexOf(t.charAt(p)) < 0) {
                return -1 - p;
            }
            int kind = "tpes".indexOf(t.charAt(p));
            p++;
            if (p >= t.length() || t.charAt(p) < '1' || t.charAt(p) > '9') {
                return -1 - p;
            }
            more.add(new Fish(kind, t.charAt(p) - '0'));
            p++;
            if (p == t.length()) {
                break;
            }
            if (p == 23 || t.charAt(p) != ';') {
                return -1 - p;
            }
            p++;
        }
        now.fish.addAll(more);
        undos.clear();
        stored.clear();
        return more.size();
    }

    boolean isDigit(String t, int p) {
        return p < t.length() && t.charAt(p) >= '0' && t.charAt(p) <= '9';
    }

    long oar() {
        String t = read();
        if (t.isEmpty()) {
            return 0;
        }
        List<int[]> lines = new ArrayList<>();
        int p = 0;
        while (true) {
            int[] line = new int[4];
            for (int k = 0; k < 4; k++, p++) {
                if (lines.size() == 12 || !isDigit(t, p)) {
                    return -1 - p;
                }
                int d = t.charAt(p) - '0';
                line[k] = d;
                boolean can = k == 3 || k == 1 && d < rows || k == 2 && d < columns
                        || k == 0 && d < now.fish.size() && now.fish.get(d).kind != 2 && now.fish.get(d).trust > 0;
                if (!can) {
                    return -1 - p;
                }
            }
            lines.add(line);
            if (p == t.length()) {
                break;
            }
            if (t.charAt(p) != ';') {
                return -1 - p;
            }
            p++;
        }
        record(now.twin());
        for (int[] line : lines) {
            Fish f = now.fish.get(line[0]);
            f.goal = line[1] * columns + line[2];
            f.crumbs = line[3];
        }
        return lines.size();
    }

    long fog() {
        String t = read();
        for (int p = 0; p < Math.max(1, t.length()); p++) {
            if (p == 20 || !isDigit(t, p)) {
                return -1 - p;
            }
        }
        fog = t;
        return t.length();
    }

    long rule() {
        String t = read();
        int fault = ruleFault(t);
        if (fault >= 0) {
            return -1 - fault;
        }
        now.rule = t;
        return 0;
    }

    boolean noFish(int i) {
        return i < 0 || i >= now.fish.size();
    }

    boolean noField(int i) {
        return i < 0 || i >= rows * columns;
    }

    long one(int i, int what) {
        if (noFish(i) || what < 0 || what > 8) {
            return THROWS;
        }
        Fish f = now.fish.get(i);
        int[] ws = ways(now, f);
        int way = ws.length == 0 ? -1 : ws.length == 2 ? 4 : ws[0];
        return new int[] {f.kind, f.strength, f.tired, f.trust, f.holds ? 1 : 0, f.goal, f.crumbs, pull(now, f), way}[what];
    }

    long field(int i, int what) {
        if (noField(i) || what < 0 || what > 2) {
            return THROWS;
        }
        int set = 0;
        for (int k = 0; k < now.fish.size(); k++) {
            set += now.fish.get(k).goal == i ? 1 << k : 0;
        }
        return what == 0 ? (lake.charAt(i) == '#' ? 1 : 0) : what == 1 ? (now.boat == i ? 1 : 0) : set;
    }

    long sheet(int kind, int n, int f, int step) {
        if (kind < 0 || kind > 3 || n > 8) {
            return -1;
        }
        if (kind < 3 && n < 0) {
            return -2;
        }
        long sum = 0;
        for (int i = 0; i < now.fish.size(); i++) {
            int v = f + i * step;
            v = kind == 0 ? (byte) v : kind == 1 ? (short) v : v;
            now.fish.get(i).strength = kind == 3 || i >= n ? 1 : v < 1 ? 1 : v > 9 ? 9 : v;
            sum += now.fish.get(i).strength;
        }
        return kind == 3 ? -3 : sum;
    }

    void record(World before) {
        undos.addLast(before);
        if (undos.size() > 15) {
            undos.removeFirst();
        }
    }

    long act(String name, int... a) {
        switch (name) {
            case "hours":
                if (a[0] < 0 || a[0] > 60) {
                    return -1;
                }
                for (int i = 0; i < a[0]; i++) {
                    anHour(now);
                }
                return now.boat;
            case "promise":
                return promised(now, a[0], a[1], a[2]);
            case "takesBack":
                if (noFish(a[0])) {
                    return -1;
                }
                Fish f = now.fish.get(a[0]);
                if (f.goal < 0) {
                    return -2;
                }
                f.goal = -1;
                f.crumbs = -1;
                f.trust = f.trust < 3 ? 0 : f.trust - 3;
                return f.trust;
            case "letsGo":
                if (noFish(a[0])) {
                    return -1;
                }
                now.fish.get(a[0]).holds ^= true;
                return now.fish.stream().filter(x -> x.holds).count();
            default:
                if (a[0] < 1 || a[0] > 99) {
                    return -1;
                }
                if (now.store + a[0] > 99) {
                    return -3;
                }
                now.store += a[0];
                return now.store;
        }
    }

    long promised(World w, int fish, int field, int n) {
        if (noFish(fish) || noField(field) || n < 0 || n > 9) {
            return -1;
        }
        Fish f = w.fish.get(fish);
        if (f.kind == 2) {
            return -3;
        }
        if (f.trust == 0) {
            return -4;
        }
        f.goal = field;
        f.crumbs = n;
        return w.fish.stream().filter(x -> x.goal >= 0).count();
    }

    long doAndRecord(String name, int... a) {
        World before = now.twin();
        long answer = act(name, a);
        if (answer >= 0) {
            record(before);
        }
        return answer;
    }

    long hours(int n) {
        now.stuck = 0;
        now.keptNow = 0;
        now.brokenNow = 0;
        long answer = doAndRecord("hours", n);
        if (answer >= 0) {
            tell(now.keptNow, now.brokenNow, now.stuck);
        }
        return answer;
    }

    long day() {
        String t = read();
        List<String> acts = new ArrayList<>();
        int p = 0;
        while (p < t.length()) {
            int kind = "ptlnb".indexOf(t.charAt(p));
            if (p >= 60 || kind < 0) {
                return -1 - p;
            }
            int from = p;
            p++;
            for (int k = 0; k < (kind == 0 ? 4 : 1); k++, p++) {
                if (p >= 60 || !isDigit(t, p) || kind == 4 && t.charAt(p) == '0') {
                    return -1 - p;
                }
            }
            acts.add(t.substring(from, p));
        }
        World before = now.twin();
        int done = 0;
        for (String a : acts) {
            int d = a.charAt(1) - '0';
            long answer;
            if (a.charAt(0) == 'p') {
                int r = a.charAt(2) - '0';
                int c = a.charAt(3) - '0';
                boolean in = r < rows && c < columns;
                answer = in ? act("promise", d, r * columns + c, a.charAt(4) - '0') : -1;
            } else {
                String name = new String[] {"takesBack", "letsGo", "hours", "buys"}["tlnb".indexOf(a.charAt(0))];
                answer = act(name, d);
            }
            if (answer < 0) {
                break;
            }
            done++;
        }
        if (done > 0) {
            record(before);
        }
        tell(done < acts.size() ? 1 : 0, now.boat);
        return done;
    }

    void bringBack(World w) {
        World to = w.twin();
        to.rule = now.rule;
        for (int i = 0; i < to.fish.size(); i++) {
            to.fish.get(i).strength = now.fish.get(i).strength;
        }
        now = to;
    }

    long undo() {
        if (undos.isEmpty()) {
            return -1;
        }
        bringBack(undos.removeLast());
        return undos.size();
    }

    long towed() {
        int[] net = nets(now, 255);
        tell(net[0], net[1], net[2], net[3]);
        return goes(now, 255);
    }

    long ahead(int n) {
        if (n < 0 || n > 99) {
            return -1;
        }
        World w = after(now, n);
        tell(w.store, w.kept, w.broken);
        return w.boat;
    }

    long comes(int field) {
        if (noField(field)) {
            return -1;
        }
        for (int h = 0; h <= 99; h++) {
            World w = after(now, h);
            if (w.boat == field) {
                tell(w.store);
                return h;
            }
        }
        return -2;
    }

    long sticks() {
        World w = now.twin();
        for (int h = 0; h <= 99; h++) {
            if (goes(w, 255) < 0) {
                tell(w.boat);
                return h;
            }
            anHour(w);
        }
        return -2;
    }

    long track(int n) {
        if (n < 1 || n > 99) {
            return -1;
        }
        long set = 0;
        World w = now.twin();
        for (int h = 0; h <= n; h++) {
            set |= 1L << w.boat;
            if (h < n) {
                anHour(w);
            }
        }
        tell(Long.bitCount(set), w.stuck);
        return set;
    }

    /** HOURS till BOAT is on a field if a set is promised it, or -1; -2 for a set that can't be. */
    int byset(int set, int field, int c, int n) {
        World w = now.twin();
        for (int i = 0; i < w.fish.size(); i++) {
            if ((set >> i & 1) == 1 && promised(w, i, field, c) < 0) {
                return -2;
            }
        }
        for (int h = 0; h <= n; h++) {
            if (w.boat == field) {
                return h;
            }
            anHour(w);
        }
        return -1;
    }

    long sends(int field, int c, int n) {
        if (noField(field) || c < 0 || c > 9 || n < 1 || n > 20) {
            return -1;
        }
        int best = -1;
        for (int set = 0; set < 1 << now.fish.size(); set++) {
            boolean fewer = best < 0 || Integer.bitCount(set) < Integer.bitCount(best);
            if (fewer && byset(set, field, c, n) >= 0) {
                best = set;
            }
        }
        if (best < 0) {
            return -2;
        }
        tell(best, byset(best, field, c, n));
        return Integer.bitCount(best);
    }

    long cheapest(int field, int n) {
        if (noField(field) || n < 1 || n > 20) {
            return -1;
        }
        int[] best = null;
        for (int c = 0; c <= 9; c++) {
            for (int set = 0; set < 1 << now.fish.size(); set++) {
                int size = Integer.bitCount(set);
                int[] key = {c * size, c, size, set};
                if ((best == null || Arrays.compare(key, best) < 0) && byset(set, field, c, n) >= 0) {
                    best = key;
                }
            }
        }
        if (best == null) {
            return -2;
        }
        tell(best[1], best[3]);
        return best[0];
    }

    World without(int fish) {
        World w = now.twin();
        w.fish.get(fish).holds = false;
        return w;
    }

    long matters(int n) {
        if (n < 1 || n > 60) {
            return -1;
        }
        int usual = after(now, n).boat;
        int best = -2;
        int far = -1;
        for (int i = 0; i < now.fish.size(); i++) {
            if (now.fish.get(i).holds && now.fish.get(i).goal >= 0) {
                int d = gap(usual, after(without(i), n).boat);
                if (d > far) {
                    far = d;
                    best = i;
                }
            }
        }
        if (best >= 0) {
            tell(far);
        }
        return best;
    }

    int promisedSet(World w) {
        int set = 0;
        for (int i = 0; i < w.fish.size(); i++) {
            set |= w.fish.get(i).goal >= 0 ? 1 << i : 0;
        }
        return set;
    }

    int crumbs(int set) {
        int sum = 0;
        for (int i = 0; i < now.fish.size(); i++) {
            sum += (set >> i & 1) == 1 ? now.fish.get(i).crumbs : 0;
        }
        return sum;
    }

    long keeps() {
        int[] best = {0, 0, 0};
        int all = promisedSet(now);
        for (int set = 0; set < 256; set++) {
            if ((set | all) == all && crumbs(set) <= now.store) {
                int[] key = {-Integer.bitCount(set), crumbs(set), set};
                best = Arrays.compare(key, best) < 0 ? key : best;
            }
        }
        tell(best[2], now.store - best[1]);
        return -best[0];
    }

    long owed() {
        int sum = crumbs(promisedSet(now));
        tell(sum > now.store ? sum - now.store : 0, promisedSet(now));
        return sum;
    }

    long fates(int n) {
        if (n < 1 || n > 99) {
            return -1;
        }
        World w = after(now, n);
        tell(w.brokenSet, promisedSet(w));
        return w.keptSet;
    }

    long minds() {
        int set = 0;
        int shoals = 0;
        for (int i = 0; i < now.fish.size(); i++) {
            Fish f = now.fish.get(i);
            if (f.goal >= 0) {
                int dr = Math.abs(f.goal / columns - now.boat / columns);
                int dc = Math.abs(f.goal % columns - now.boat % columns);
                if (dr == dc && dr != 0) {
                    set |= 1 << i;
                    shoals |= f.kind == 3 ? 1 << i : 0;
                }
            }
        }
        tell(Integer.bitCount(set), shoals);
        return set;
    }

    int pullOf(int set) {
        int sum = 0;
        for (int i = 0; i < now.fish.size(); i++) {
            sum += (set >> i & 1) == 1 ? pull(now, now.fish.get(i)) : 0;
        }
        return sum;
    }

    int pullers() {
        int set = 0;
        for (int i = 0; i < now.fish.size(); i++) {
            set |= pull(now, now.fish.get(i)) > 0 ? 1 << i : 0;
        }
        return set;
    }

    long evens() {
        int all = pullers();
        int[] best = null;
        for (int set = 0; set < 256; set++) {
            if ((set | all) == all) {
                int[] key = {Math.abs(pullOf(set) - pullOf(all & ~set)), set};
                best = best == null || Arrays.compare(key, best) < 0 ? key : best;
            }
        }
        tell(best[1], pullOf(best[1]));
        return best[0];
    }

    long strongest() {
        if (now.fish.isEmpty()) {
            return -2;
        }
        int most = now.fish.stream().mapToInt(f -> pull(now, f)).max().getAsInt();
        long like = now.fish.stream().filter(f -> pull(now, f) == most).count();
        tell(most, like);
        for (int i = 0; true; i++) {
            if (pull(now, now.fish.get(i)) == most) {
                return i;
            }
        }
    }

    long sways(int i) {
        if (noFish(i)) {
            return -1;
        }
        Fish f = now.fish.get(i);
        if (!f.holds || f.goal < 0) {
            return -2;
        }
        int others = 0;
        for (int k = 0; k < now.fish.size(); k++) {
            others |= k != i && now.fish.get(k).holds && now.fish.get(k).goal >= 0 ? 1 << k : 0;
        }
        int sets = 0;
        int swayed = 0;
        for (int set = 0; set < 256; set++) {
            if ((set | others) == others) {
                sets++;
                swayed += goes(now, set) != goes(now, set | 1 << i) ? 1 : 0;
            }
        }
        tell(sets);
        return swayed;
    }

    long seen(int n, int field, int is) {
        if (n < 0 || n > 20 || noField(field) || is != 0 && is != 1 || sights.size() == 10) {
            return -1;
        }
        sights.add(new int[] {n, field, is});
        return sights.size();
    }

    long forget() {
        int n = sights.size();
        sights.clear();
        return n;
    }

    boolean asSeen(World w) {
        for (int[] s : sights) {
            if ((after(w, s[0]).boat == s[1]) != (s[2] == 1)) {
                return false;
            }
        }
        return true;
    }

    int fitSet() {
        int set = 0;
        for (int i = 0; i < now.fish.size(); i++) {
            set |= now.fish.get(i).holds && asSeen(without(i)) ? 1 << i : 0;
        }
        return set;
    }

    long fits() {
        int set = fitSet();
        tell(Integer.bitCount(set), asSeen(now) ? 1 : 0);
        return set;
    }

    long looks() {
        int set = fitSet();
        if (set == 0) {
            return -2;
        }
        int best = -1;
        int fewest = 99;
        for (int h = 0; h <= 20; h++) {
            int[] at = new int[36];
            for (int i = 0; i < now.fish.size(); i++) {
                if ((set >> i & 1) == 1) {
                    at[after(without(i), h).boat]++;
                }
            }
            int most = Arrays.stream(at).max().getAsInt();
            if (most < fewest) {
                fewest = most;
                best = h;
            }
        }
        tell(fewest);
        return best;
    }

    boolean beside(int a, int b) {
        return gap(a, b) == 1;
    }

    /** Steps from a field, which counts as water, to all; -1: no way. */
    int[] steps(int from) {
        int[] far = new int[rows * columns];
        Arrays.fill(far, -1);
        far[from] = 0;
        for (int round = 0; round < 36; round++) {
            for (int a = 0; a < far.length; a++) {
                for (int b = 0; b < far.length; b++) {
                    if (far[a] == round && far[b] < 0 && beside(a, b) && lake.charAt(b) == '.') {
                        far[b] = round + 1;
                    }
                }
            }
        }
        return far;
    }

    long way(int from, int to) {
        if (noField(from) || noField(to)) {
            return -1;
        }
        if (lake.charAt(from) == '#' || lake.charAt(to) == '#' || steps(from)[to] < 0) {
            return -2;
        }
        int[] left = steps(to);
        List<Long> fields = new ArrayList<>();
        int at = from;
        fields.add((long) at);
        while (at != to) {
            for (int b = 0; b < left.length; b++) {
                if (beside(at, b) && left[b] >= 0 && left[b] == left[at] - 1) {
                    at = b;
                    break;
                }
            }
            fields.add((long) at);
        }
        row = fields;
        return fields.size() - 1;
    }

    long farthest() {
        int[] far = steps(now.boat);
        int most = Arrays.stream(far).max().getAsInt();
        long none = 0;
        int first = -1;
        for (int i = 0; i < far.length; i++) {
            if (far[i] == most && first < 0) {
                first = i;
            }
            none |= far[i] < 0 && lake.charAt(i) == '.' ? 1L << i : 0;
        }
        tell(most, none);
        return first;
    }

    long drifts(int way, int p) {
        if (way < 0 || way > 4 || p < 0 || p > 10) {
            return -1;
        }
        int all = pullers();
        BigInteger upper = BigInteger.ZERO;
        for (int set = 0; set < 256; set++) {
            if ((set | all) == all) {
                int to = goes(now, set);
                if ((to < 0 ? 4 : to) == way) {
                    int stay = Integer.bitCount(set);
                    int leave = Integer.bitCount(all) - stay;
                    upper = upper.add(BigInteger.valueOf(p).pow(leave).multiply(BigInteger.valueOf(10 - p).pow(stay)));
                }
            }
        }
        BigInteger lower = BigInteger.TEN.pow(Integer.bitCount(all));
        BigInteger g = upper.gcd(lower);
        tell(upper.divide(g).longValueExact(), lower.divide(g).longValueExact());
        return 0;
    }

    /** Whether who is to eat wins (by trying all). */
    static boolean wins(boolean trout, int n, int k, Map<String, Boolean> known) {
        String key = trout + " " + n;
        if (!known.containsKey(key)) {
            boolean can = false;
            for (int e : new int[] {1, trout ? 2 : k}) {
                can |= e <= n && !wins(!trout, n - e, k, known);
            }
            known.put(key, can);
        }
        return known.get(key);
    }

    long game(int n, int k) {
        if (n < 0 || n > 60 || k < 2 || k > 9) {
            return -1;
        }
        if (n == 0) {
            return -2;
        }
        tell();
        for (int e = 1; e <= 2; e++) {
            if (e <= n && !wins(false, n - e, k, new HashMap<>())) {
                tell(e);
                return 1;
            }
        }
        return 0;
    }

    long law() {
        String t = read();
        int fault = ruleFault(t);
        if (fault >= 0) {
            return -10000 - fault;
        }
        World w = now.twin();
        w.rule = t;
        tell(after(now, 12).boat);
        for (Fish f : w.fish) {
            row.add((long) pull(w, f));
        }
        return after(w, 12).boat;
    }

    static int has(int x, int y, int v) {
        return x > y ? v - x : x == y ? v / 2 - x / 2 : x == 0 ? 0 : -1;
    }

    long rests(int v) {
        if (v < 0 || v > 20) {
            return -1;
        }
        int pairs = 0;
        tell();
        for (int pair = 0; pair < 100; pair++) {
            int x = pair / 10;
            int y = pair % 10;
            boolean rest = true;
            for (int z = 0; z < 10; z++) {
                rest &= has(z, y, v) <= has(x, y, v) && has(z, x, v) <= has(y, x, v);
            }
            if (rest && pairs++ == 0) {
                tell(x, y);
            }
        }
        return pairs;
    }

    int r;

    int draw(int n) {
        r = r * 1103515245 + 12345;
        return (int) (Integer.toUnsignedLong(r) / 65536 % n);
    }

    long years(int seed, int n) {
        if (n < 1 || n > 60) {
            return -1;
        }
        r = seed;
        World w = now.twin();
        for (int i = 0; i < n; i++) {
            int what = draw(4);
            if (what <= 1) {
                anHour(w);
            } else if (!w.fish.isEmpty()) {
                int fish = draw(w.fish.size());
                if (what == 3) {
                    w.fish.get(fish).holds ^= true;
                } else {
                    int field = draw(rows * columns);
                    promised(w, fish, field, draw(4));
                }
            }
        }
        tell(w.kept - now.kept, w.broken - now.broken);
        return w.boat;
    }

    long keep(int i) {
        if (i < 0 || i > 2) {
            return 0;
        }
        stored.put(i, now.twin());
        return 1;
    }

    long again(int i) {
        if (!stored.containsKey(i)) {
            return 0;
        }
        bringBack(stored.get(i));
        undos.clear();
        return 1;
    }

    long count(int what) {
        if (what < 0 || what > 13) {
            return -100;
        }
        int holding = 0;
        for (int i = 0; i < now.fish.size(); i++) {
            holding |= now.fish.get(i).holds ? 1 << i : 0;
        }
        return new int[] {rows, columns, now.fish.size(), now.boat, now.store, now.kept, now.broken, now.hour,
            fogAt(now.hour), holding, sights.size(), undos.size(), row.size(), text.length()}[what];
    }

    long row(int i) {
        return i < 0 || i >= row.size() ? THROWS : row.get(i);
    }
}
