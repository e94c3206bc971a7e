import java.io.IOException;
import java.nio.file.Files;
import java.nio.file.Path;
import java.util.Map;
import java.util.Set;
import java.util.TreeSet;
import java.util.regex.Matcher;
import java.util.regex.Pattern;

/**
 * Each sentence of the section "Terms", of the promises 1 to 57, and that of an object's use, with checks of
 * its own, its boundary cases above all. The sentences are read off the document: one without a check is a failure, and so is a
 * check under words that the document doesn't have.
 */
public final class EdgesTest {
    private static final Path DOCUMENT = Path.of("../shared/DOC.md");
    private static final int PROMISES = 57;

    public static void main(String[] args) throws IOException {
        Edges e = new Edges();
        TermsEdges.run(e);
        WordsEdges.run(e);
        SlipEdges.run(e);
        WhichSignEdges.run(e);
        EveningEdges.run(e);
        TextEdges.run(e);
        SheetEdges.run(e);
        ImageEdges.run(e);
        everySentence(e);
        e.all().finish();
    }

    private static void everySentence(Edges e) throws IOException {
        Set<String> asked = sentences(Files.readString(DOCUMENT));
        for (String s : asked) {
            if (e.checks().getOrDefault(s, 0) == 0) {
                e.all().fail("no check under [" + s + "]");
            }
        }
        for (Map.Entry<String, Integer> c : e.checks().entrySet()) {
            if (!asked.contains(c.getKey())) {
                e.all().fail("the document doesn't say [" + c.getKey() + "]");
            }
        }
    }

    private static Set<String> sentences(String document) {
        Set<String> all = new TreeSet<>();
        int use = document.indexOf("An object is used");
        add(all, Edges.USE, document.substring(use, document.indexOf("## The public face")));
        int terms = document.indexOf("## Terms") + "## Terms".length();
        // The numbers of the points and the lines about the interface are no sentences of the terms.
        String text = document.substring(terms, document.indexOf("## Promise 1:"))
            .replaceAll("```(text)?", "").replaceAll("(?m)^\\d\\. ", "").replaceAll("(?m)^Ahead of the calls.*", "");
        add(all, Edges.TERMS, text);
        Matcher promise = Pattern.compile("(?m)^## Promise (\\d+): .*\\R\\R`[^`]*`: (.*)$").matcher(document);
        int count = 0;
        while (promise.find()) {
            count++;
            add(all, Integer.parseInt(promise.group(1)), promise.group(2));
        }
        if (count != PROMISES) {
            throw new IllegalStateException("the document has " + count + " promises");
        }
        return all;
    }

    private static void add(Set<String> all, int promise, String text) {
        for (String s : text.replaceAll("\\s+", " ").trim().split("(?<=\\.) (?=[A-Z])")) {
            all.add(Edges.key(promise, s));
        }
    }
}
