import java.io.IOException;
import java.nio.file.Files;
import java.nio.file.Path;
import java.util.ArrayList;
import java.util.List;
import java.util.regex.Pattern;

/** A sentence of the document under a promise, with cases on either side of its bound. */
final class Sentence {
    private static final int PROMISES = 52;
    private static final List<Sentence> TOLD = new ArrayList<>();
    // What a promise says when it can refuse a call, or have no answer.
    private static final Pattern REFUSES = Pattern.compile("others|NONE|-2|none|False");
    // What a sentence says when it names a bound.
    private static final Pattern BOUNDS = Pattern.compile("others|NONE|-2|-100|none|False|at most|at least|up to| \\.\\. |above|below|beyond|no way");

    private final int promise;
    private final String words;
    private int taken = 0;
    private int left = 0;

    private Sentence(int promise, String words) {
        this.promise = promise;
        this.words = words;
    }

    static Sentence of(int promise, String words) {
        Sentence sentence = new Sentence(promise, words);
        TOLD.add(sentence);
        return sentence;
    }

    /** A case that the sentence takes. */
    void takes(String what, long got, long due) {
        taken++;
        Check.due("promise " + promise + ", \"" + words + "\", takes " + what + ":", got, due);
    }

    void takes(String what, boolean got, boolean due) {
        takes(what, got ? 1 : 0, due ? 1 : 0);
    }

    /** A case that the sentence does not take. */
    void leaves(String what, long got, long due) {
        left++;
        Check.due("promise " + promise + ", \"" + words + "\", leaves " + what + ":", got, due);
    }

    void leaves(String what, boolean got, boolean due) {
        leaves(what, got ? 1 : 0, due ? 1 : 0);
    }

    /** Holds the quotations against the document: they stand in it, and all of it is quoted. */
    static void compareWithDocument() throws IOException {
        for (Sentence sentence : TOLD) {
            Check.due("\"" + sentence.words + "\" has a case that it takes", sentence.taken > 0, true);
            if (BOUNDS.matcher(sentence.words).find()) {
                Check.due("\"" + sentence.words + "\" has a case that it doesn't take", sentence.left > 0, true);
            }
        }
        Path path = Path.of(System.getProperty("project.root", "."), "../shared/DOC.md");
        if (!Files.exists(path)) {
            System.out.println("no document at " + path + ": the quotations are not compared");
            return;
        }
        String document = Files.readString(path);
        String opening = between(document, "## What it is", "## The public face");
        String terms = between(document, "## Terms", "The constants:");
        for (Sentence sentence : TOLD) {
            String own = promised(document, sentence.promise);
            boolean stands = (opening + terms + own).contains(sentence.words);
            Check.due("\"" + sentence.words + "\" stands in the terms or under promise " + sentence.promise, stands, true);
        }
        quoteAll("the terms", terms.replaceAll("==== [IV]+\\.", ""), 0);
        for (int promise = 1; promise <= PROMISES; promise++) {
            comparePromise(promise, promised(document, promise));
        }
    }

    private static void comparePromise(int promise, String text) {
        int taken = 0;
        int left = 0;
        for (Sentence sentence : TOLD) {
            if (sentence.promise == promise) {
                taken += sentence.taken;
                left += sentence.left;
            }
        }
        Check.due("promise " + promise + " has a case that it takes", taken > 0, true);
        if (REFUSES.matcher(text).find()) {
            Check.due("promise " + promise + " has a case that it doesn't take", left > 0, true);
        }
        quoteAll("promise " + promise, text, promise);
    }

    // Each word must be in a quotation; those of a promise may be under that promise alone.
    private static void quoteAll(String where, String text, int promise) {
        boolean[] quoted = new boolean[text.length()];
        for (Sentence sentence : TOLD) {
            if (promise == 0 || sentence.promise == promise) sentence.mark(text, quoted);
        }
        int start = 0;
        for (int i = 0; i <= text.length(); i++) {
            boolean open = i < text.length() && !quoted[i];
            if (!open) {
                String rest = text.substring(start, i);
                boolean saysSomething = rest.chars().anyMatch(Character::isLetterOrDigit);
                if (saysSomething) Check.due("of " + where + ", \"" + rest + "\" is quoted", false, true);
                start = i + 1;
            }
        }
    }

    private void mark(String text, boolean[] quoted) {
        for (int at = text.indexOf(words); at >= 0; at = text.indexOf(words, at + 1)) {
            for (int i = 0; i < words.length(); i++) quoted[at + i] = true;
        }
    }

    // What is said under a promise, without the head of its call.
    private static String promised(String document, int promise) {
        return between(document, "## Promise " + promise + ":", "\n## ").replaceFirst("^[^`]*`[^`]*`: ", "");
    }

    private static String between(String document, String from, String to) {
        int start = document.indexOf(from) + from.length();
        int end = document.indexOf(to, start);
        String part = document.substring(start, end < 0 ? document.length() : end);
        return part.replaceAll("(?m)^```.*$", " ").replaceAll("\\s+", " ").trim();
    }
}
