import java.util.ArrayList;
import java.util.List;
import java.util.NoSuchElementException;
import java.util.Random;

/** Runs of drawn calls on a ferry and on the oracle: all answers and rows must be alike. */
public final class OracleTest {
    private final Random random;
    private final FishFerry x = new FishFerry();
    private final Oracle o = new Oracle();
    private final List<String> calls = new ArrayList<>();

    private OracleTest(long seed) {
        random = new Random(seed);
    }

    private int below(int n) {
        return random.nextInt(n);
    }

    /** A number of from .. to, at times one beside it or a wild one. */
    private int near(int from, int to) {
        int luck = below(24);
        if (luck == 0) {
            return from - 1;
        }
        if (luck == 1) {
            return to + 1;
        }
        if (luck == 2 && below(3) == 0) {
            return new int[] {Integer.MIN_VALUE, Integer.MAX_VALUE, random.nextInt()}[below(3)];
        }
        return from + below(to - from + 1);
    }

    private void alike(String call, long got, long want) {
        calls.add(call);
        Check.is("after " + calls + ": " + call, got, want);
        Check.is("ROW after " + calls, Check.row(x), o.row);
        Check.is("row behind the ROW", Check.throwsOnRow(x, o.row.size()), true);
        for (int what = 0; what < 14; what++) {
            Check.is("after " + calls + ": count(" + what + ")", x.count(what), o.count(what));
        }
        for (int fish = 0; fish < o.now.fish.size(); fish++) {
            for (int what = 0; what < 9; what++) {
                Check.is("after " + calls + ": one(" + fish + ", " + what + ")", x.one(fish, what), o.one(fish, what));
            }
        }
    }

    private void put(String text) {
        Check.put(x, text);
        o.text = text;
    }

    // ---- drawn texts

    private String lakeText() {
        int r = 2 + below(5);
        int c = 2 + below(5);
        StringBuilder t = new StringBuilder().append(r).append(c);
        int rocks = below(3);
        for (int i = 0; i < r * c; i++) {
            t.append(below(9) < rocks && (i > 0 || below(5) == 0) ? '#' : '.');
        }
        return t.toString();
    }

    private String fishText() {
        StringBuilder t = new StringBuilder();
        int lines = 1 + below(below(2) == 0 ? 3 : 9);
        for (int i = 0; i < lines; i++) {
            t.append(i > 0 ? ";" : "").append("tptpse".charAt(below(6))).append(1 + below(9));
        }
        return t.toString();
    }

    private String oarText() {
        StringBuilder t = new StringBuilder();
        int lines = 1 + below(below(10) == 0 ? 14 : 5);
        int fish = Math.max(1, o.now.fish.size());
        for (int i = 0; i < lines; i++) {
            t.append(i > 0 ? ";" : "").append(below(fish)).append(below(o.rows)).append(below(o.columns)).append(below(10));
        }
        return t.toString();
    }

    private String fogText() {
        StringBuilder t = new StringBuilder();
        int n = 1 + below(21);
        for (int i = 0; i < n; i++) {
            t.append(below(10));
        }
        return t.toString();
    }

    private String ruleText(int depth) {
        StringBuilder t = new StringBuilder();
        int things = 1 + below(4);
        boolean compared = false;
        for (int i = 0; i < things; i++) {
            if (i > 0) {
                char sign = "+-*/+-<>=".charAt(below(9));
                t.append(sign == '<' && compared && below(5) > 0 ? '+' : sign);
                compared |= "<>=".indexOf(sign) >= 0;
            }
            t.append("----".substring(0, below(5) == 0 ? below(4) : 0));
            int what = below(6);
            if (what == 0 && depth < 5) {
                t.append('(').append(ruleText(depth + 1)).append(')');
            } else if (what == 1) {
                t.append(below(below(8) == 0 ? 1200 : 12));
            } else {
                t.append("sdcufnkg".charAt(below(8)));
            }
        }
        return t.toString();
    }

    private String dayText() {
        StringBuilder t = new StringBuilder();
        int acts = 1 + below(below(6) == 0 ? 30 : 6);
        for (int i = 0; i < acts; i++) {
            switch (below(5)) {
                case 0: t.append('n').append(below(10)); break;
                case 1: t.append('p').append(below(Math.max(1, o.now.fish.size()))).append(below(o.rows + below(2)))
                        .append(below(o.columns + below(2))).append(below(10)); break;
                case 2: t.append('t').append(below(Math.max(1, o.now.fish.size()))); break;
                case 3: t.append('l').append(below(Math.max(1, o.now.fish.size()))); break;
                default: t.append('b').append(1 + below(9));
            }
        }
        return t.toString();
    }

    /** At times a sign is changed, put in, taken out, or the text cut. */
    private String worn(String text) {
        StringBuilder t = new StringBuilder(text);
        if (below(5) == 0 && t.length() > 0) {
            int p = below(t.length());
            char sign = "0123456789;.#tpesnlb()<=>+-*/sdcufnkg \u0000\u00ff".charAt(below(40));
            switch (below(4)) {
                case 0: t.setCharAt(p, sign); break;
                case 1: t.insert(p, sign); break;
                case 2: t.deleteCharAt(p); break;
                default: t.setLength(p);
            }
        }
        if (below(12) == 0) {
            t.append(t);
        }
        if (t.length() > 80) {
            t.setLength(80);
        }
        return t.toString();
    }

    // ---- drawn calls

    private void textCall() {
        switch (below(14)) {
            case 0: put(worn(lakeText())); alike("lake " + o.text, x.lake(), o.lake()); break;
            case 1:
            case 2: put(worn(fishText())); alike("fish " + o.text, x.fish(), o.fish()); break;
            case 3:
            case 4:
            case 5:
            case 6: put(worn(oarText())); alike("oar " + o.text, x.oar(), o.oar()); break;
            case 7: put(worn(fogText())); alike("fog " + o.text, x.fog(), o.fog()); break;
            case 8: put(worn(ruleText(0))); alike("rule " + o.text, x.rule(), o.rule()); break;
            case 9: put(worn(ruleText(0))); alike("law " + o.text, x.law(), o.law()); break;
            case 10: put(""); alike("law of nothing", x.law(), o.law()); break;
            case 11: textEdge(); break;
            default: put(worn(dayText())); alike("day " + o.text, x.day(), o.day());
        }
    }

    private void textEdge() {
        int v = random.nextInt();
        int n = near(0, 80);
        switch (below(7)) {
            case 0: alike("sign", x.sign(v), o.sign(v)); break;
            case 1: alike("end " + n, x.end(n) ? 1 : 0, o.end(n)); break;
            case 2: put(""); alike("fish of nothing", x.fish(), o.fish()); break;
            case 3: put(""); alike("oar of nothing", x.oar(), o.oar()); break;
            case 4: put(""); alike("fog of nothing", x.fog(), o.fog()); break;
            case 5: put(""); alike("rule of nothing", x.rule(), o.rule()); break;
            default: put(""); alike("day of nothing", x.day(), o.day());
        }
    }

    private void act() {
        int fish = near(0, Math.max(0, o.now.fish.size() - 1));
        int field = near(0, o.rows * o.columns - 1);
        int n = near(0, 9);
        int i = near(0, 2);
        switch (below(9)) {
            case 0: n = below(3) == 0 ? near(0, 60) : near(0, 4); alike("hours " + n, x.hours(n), o.hours(n)); break;
            case 1:
            case 2: alike("promise " + fish + " " + field + " " + n, x.promise(fish, field, n), o.doAndRecord("promise", fish, field, n)); break;
            case 3: alike("takesBack " + fish, x.takesBack(fish), o.doAndRecord("takesBack", fish)); break;
            case 4: alike("letsGo " + fish, x.letsGo(fish), o.doAndRecord("letsGo", fish)); break;
            case 5: n = near(1, below(4) == 0 ? 99 : 20); alike("buys " + n, x.buys(n), o.doAndRecord("buys", n)); break;
            case 6: alike("undo", x.undo(), o.undo()); break;
            case 7: alike("keep " + i, x.keep(i) ? 1 : 0, o.keep(i)); break;
            default: alike("again " + i, x.again(i) ? 1 : 0, o.again(i));
        }
    }

    private void question() {
        int fish = near(0, Math.max(0, o.now.fish.size() - 1));
        int field = near(0, o.rows * o.columns - 1);
        int n = near(1, 99);
        switch (below(20)) {
            case 0: alike("towed", x.towed(), o.towed()); break;
            case 1: n = near(0, 99); alike("ahead " + n, x.ahead(n), o.ahead(n)); break;
            case 2: alike("comes " + field, x.comes(field), o.comes(field)); break;
            case 3: alike("sticks", x.sticks(), o.sticks()); break;
            case 4: alike("track " + n, x.track(n), o.track(n)); break;
            case 5:
            case 6:
            case 7: search(field); break;
            case 8: n = near(1, 60); alike("matters " + n, x.matters(n), o.matters(n)); break;
            case 9: alike("keeps", x.keeps(), o.keeps()); break;
            case 10: alike("owed", x.owed(), o.owed()); break;
            case 11: alike("fates " + n, x.fates(n), o.fates(n)); break;
            case 12: alike("minds", x.minds(), o.minds()); break;
            case 13: alike("evens", x.evens(), o.evens()); break;
            case 14: alike("strongest", x.strongest(), o.strongest()); break;
            case 15: alike("sways " + fish, x.sways(fish), o.sways(fish)); break;
            case 16: alike("farthest", x.farthest(), o.farthest()); break;
            case 17: int to = near(0, o.rows * o.columns - 1); alike("way " + field + " " + to, x.way(field, to), o.way(field, to)); break;
            case 18: int way = near(0, 4); int p = near(0, 10); alike("drifts " + way + " " + p, x.drifts(way, p), o.drifts(way, p)); break;
            default: rest();
        }
    }

    private void search(int field) {
        int c = near(0, 9);
        int n = near(1, 20);
        if (below(3) == 0) {
            alike("cheapest " + field + " " + n, x.cheapest(field, n), o.cheapest(field, n));
        } else {
            alike("sends " + field + " " + c + " " + n, x.sends(field, c, n), o.sends(field, c, n));
        }
    }

    private void rest() {
        int n = near(0, 60);
        int k = near(2, 9);
        int v = near(0, 20);
        int seed = random.nextInt();
        int years = near(1, 60);
        switch (below(4)) {
            case 0: alike("game " + n + " " + k, x.game(n, k), o.game(n, k)); break;
            case 1: alike("rests " + v, x.rests(v), o.rests(v)); break;
            default: alike("years " + seed + " " + years, x.years(seed, years), o.years(seed, years));
        }
    }

    private void sight() {
        int n = near(0, 20);
        int field = below(3) == 0 ? near(0, o.rows * o.columns - 1) : o.after(o.now, Math.max(0, Math.min(20, n))).boat;
        int is = near(0, 1);
        switch (below(6)) {
            case 0:
            case 1: alike("seen " + n + " " + field + " " + is, x.seen(n, field, is), o.seen(n, field, is)); break;
            case 2: alike("forget", x.forget(), o.forget()); break;
            case 3:
            case 4: alike("fits", x.fits(), o.fits()); break;
            default: alike("looks", x.looks(), o.looks());
        }
    }

    private void look() {
        int i = near(0, 8);
        int what = near(0, 8);
        long got;
        try {
            got = x.one(i, what);
        } catch (NoSuchElementException e) {
            got = Oracle.THROWS;
        }
        alike("one " + i + " " + what, got, o.one(i, what));
        int field = near(0, 36);
        try {
            got = x.field(field, what % 4);
        } catch (NoSuchElementException e) {
            got = Oracle.THROWS;
        }
        alike("field " + field + " " + what % 4, got, o.field(field, what % 4));
        int kind = near(0, 3);
        int n = near(0, 8);
        int f = below(3) == 0 ? random.nextInt() : below(300) - 20;
        int step = below(3) == 0 ? random.nextInt() : below(300) - 20;
        alike("sheet " + kind + " " + n + " " + f + " " + step, x.sheet(kind, n, f, step), o.sheet(kind, n, f, step));
    }

    private void run(int n) {
        put(lakeText());
        alike("lake " + o.text, x.lake(), o.lake());
        put(fishText());
        alike("fish " + o.text, x.fish(), o.fish());
        for (int i = 0; i < n; i++) {
            switch (below(10)) {
                case 0:
                case 1:
                case 2: textCall(); break;
                case 3:
                case 4: act(); break;
                case 5: sight(); break;
                case 6: look(); break;
                default: question();
            }
        }
    }

    public static void main(String[] args) {
        long first = args.length > 0 ? Long.parseLong(args[0]) : 1;
        long runs = args.length > 1 ? Long.parseLong(args[1]) : 150;
        for (long seed = first; seed < first + runs; seed++) {
            new OracleTest(seed).run(60);
        }
        Check.finish();
    }
}
