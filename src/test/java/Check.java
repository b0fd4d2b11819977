import java.util.ArrayList;
import java.util.List;
import java.util.NoSuchElementException;

/** What the tests share: texts put in, rows read out, faults counted. */
final class Check {
    private static int checks = 0;
    private static int wrong = 0;

    private Check() {
    }

    static void is(String what, Object got, Object want) {
        checks++;
        if (!String.valueOf(got).equals(String.valueOf(want))) {
            wrong++;
            System.out.println(what + " answered " + got + ", due is " + want);
        }
    }

    /** A call's answer and the ROW behind it, as one text. */
    static void tells(String what, FishFerry x, long got, String want) {
        is(what, got + " " + row(x), want);
    }

    static FishFerry put(FishFerry x, String text) {
        x.end(0);
        for (int i = 0; i < text.length(); i += 4) {
            int v = 0;
            for (int k = 0; k < 4; k++) {
                v = v << 8 | (i + k < text.length() ? text.charAt(i + k) & 255 : 0);
            }
            x.sign(v);
        }
        x.end(text.length());
        return x;
    }

    /** A new ferry with a lake, fish and an oar; an empty text leaves that out. */
    static FishFerry ferry(String lake, String fish, String oar) {
        FishFerry x = new FishFerry();
        if (!lake.isEmpty()) {
            put(x, lake).lake();
        }
        put(x, fish).fish();
        put(x, oar).oar();
        return x;
    }

    static List<Long> row(FishFerry x) {
        List<Long> numbers = new ArrayList<>();
        for (int i = 0; i < x.count(12); i++) {
            numbers.add(x.row(i));
        }
        return numbers;
    }

    /** All that can be seen of a ferry's state without a question that tells a ROW. */
    static String state(FishFerry x) {
        StringBuilder all = new StringBuilder();
        for (int what = 0; what < 14; what++) {
            all.append(what == 12 ? "" : x.count(what) + " ");
        }
        for (int fish = 0; fish < x.count(2); fish++) {
            all.append("|");
            for (int what = 0; what < 9; what++) {
                all.append(x.one(fish, what)).append(' ');
            }
        }
        return all.toString();
    }

    static boolean throwsOnRow(FishFerry x, int i) {
        try {
            x.row(i);
            return false;
        } catch (NoSuchElementException e) {
            return true;
        }
    }

    static boolean throwsOnOne(FishFerry x, int fish, int what) {
        try {
            x.one(fish, what);
            return false;
        } catch (NoSuchElementException e) {
            return true;
        }
    }

    static boolean throwsOnField(FishFerry x, int field, int what) {
        try {
            x.field(field, what);
            return false;
        } catch (NoSuchElementException e) {
            return true;
        }
    }

    /** Some of count()'s numbers, with a space between. */
    static String counts(FishFerry x, int... whats) {
        StringBuilder all = new StringBuilder();
        for (int what : whats) {
            all.append(all.length() > 0 ? " " : "").append(x.count(what));
        }
        return all.toString();
    }

    /** Some of one()'s numbers of a FISH, with a space between. */
    static String ones(FishFerry x, int fish, int... whats) {
        StringBuilder all = new StringBuilder();
        for (int what : whats) {
            all.append(all.length() > 0 ? " " : "").append(x.one(fish, what));
        }
        return all.toString();
    }

    /** One of one()'s numbers of each FISH, with a space between. */
    static String each(FishFerry x, int what) {
        StringBuilder all = new StringBuilder();
        for (int fish = 0; fish < x.count(2); fish++) {
            all.append(fish > 0 ? " " : "").append(x.one(fish, what));
        }
        return all.toString();
    }

    static void finish() {
        System.out.println(checks + " checks, " + wrong + " wrong");
        System.exit(wrong == 0 && checks > 0 ? 0 : 1);
    }
}
