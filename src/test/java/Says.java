import java.nio.file.Files;
import java.nio.file.Path;
import java.util.ArrayList;
import java.util.List;
import java.util.Map;
import java.util.TreeMap;
import java.util.regex.Matcher;
import java.util.regex.Pattern;

/**
 * The document's own words, each with checks of its own: a quotation must stand in the document, must be followed by a
 * check, and in the end no word of the terms (part 0) and of the promises (1 to 48) may be left without one.
 */
final class Says {
    private static final Map<Integer, String> PARTS = new TreeMap<>();
    private static final Map<Integer, boolean[]> QUOTED = new TreeMap<>();
    private static String words = "";
    private static int checksSince = 1;

    private Says() {
    }

    static void read() throws Exception {
        String doc = Files.readString(Path.of("../shared/DOC.md"));
        String terms = doc.substring(doc.indexOf("## Terms") + 8, doc.indexOf("Ahead of the calls `sign`"));
        keep(0, terms.replace("```text", " ").replace("```", " "));
        Matcher promise = Pattern.compile("(?s)## Promise (\\d+): \\w[\\w ]*\n+`[^`]*`: (.*?)(?=\n## )").matcher(doc);
        while (promise.find()) {
            keep(Integer.parseInt(promise.group(1)), promise.group(2));
        }
        Check.is("the terms and 48 promises", PARTS.size(), 49);
    }

    private static void keep(int part, String text) {
        String plain = text.replaceAll("\\s+", " ").trim();
        PARTS.put(part, plain);
        QUOTED.put(part, new boolean[plain.length()]);
    }

    /** Begins the checks of some words of a part of the document. */
    static void of(int part, String quotation) {
        noneWithoutCheck();
        words = part + ": " + quotation;
        checksSince = 0;
        boolean[] quoted = QUOTED.get(part);
        int at = PARTS.get(part).indexOf(quotation);
        Check.is("the document says \"" + words + "\"", at >= 0, true);
        for (int i = at; at >= 0 && i < at + quotation.length(); i++) {
            quoted[i] = true;
        }
    }

    private static void noneWithoutCheck() {
        Check.is("a check of \"" + words + "\"", checksSince > 0, true);
    }

    static void is(Object got, Object want) {
        checksSince++;
        Check.is("\"" + words + "\"", got, want);
    }

    static void is(String what, Object got, Object want) {
        checksSince++;
        Check.is("\"" + words + "\" " + what, got, want);
    }

    /** A call's answer and the ROW behind it, as one text. */
    static void tells(FishFerry x, long got, String want) {
        is(got + " " + Check.row(x), want);
    }

    static void tells(String what, FishFerry x, long got, String want) {
        is(what, got + " " + Check.row(x), want);
    }

    /** Each answer in turn. */
    static void are(String want, long... got) {
        List<Long> all = new ArrayList<>();
        for (long one : got) {
            all.add(one);
        }
        is(all, want);
    }

    /** That no word was left without a quotation. */
    static void all() {
        noneWithoutCheck();
        for (Map.Entry<Integer, String> part : PARTS.entrySet()) {
            StringBuilder left = new StringBuilder();
            boolean[] quoted = QUOTED.get(part.getKey());
            for (int i = 0; i < quoted.length; i++) {
                left.append(quoted[i] ? '|' : part.getValue().charAt(i));
            }
            String bare = left.toString().replaceAll("\\|+", "|");
            Check.is("words of " + part.getKey() + " without a check: " + bare, bare.matches(".*\\w.*"), false);
        }
    }
}
