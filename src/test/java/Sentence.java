import java.io.IOException;
import java.nio.file.Files;
import java.nio.file.Path;
import java.util.ArrayList;
import java.util.List;
import java.util.regex.Matcher;
import java.util.regex.Pattern;

/** A sentence of the document under a promise, with cases on either side of its bound. */
final class Sentence {
    private static final int PROMISES = 52;
    private static final List<Sentence> TOLD = new ArrayList<>();
    // A promise that can't be refused, because it takes nothing and always has an answer.
    private static final Pattern REFUSES = Pattern.compile("others|NONE|-2|none");

    private final int promise;
    private final String words;
    private int taken = 0;
    private int refused = 0;

    private Sentence(int promise, String words) {
        this.promise = promise;
        this.words = words;
    }

    static Sentence of(int promise, String words) {
        Sentence sentence = new Sentence(promise, words);
        TOLD.add(sentence);
        return sentence;
    }

    /** A case that the sentence takes. */
    void takes(String what, long got, long due) {
        taken++;
        Check.due("promise " + promise + ", \"" + words + "\", takes " + what + ":", got, due);
    }

    void takes(String what, boolean got, boolean due) {
        takes(what, got ? 1 : 0, due ? 1 : 0);
    }

    /** A case that the sentence does not take. */
    void leaves(String what, long got, long due) {
        refused++;
        Check.due("promise " + promise + ", \"" + words + "\", leaves " + what + ":", got, due);
    }

    void leaves(String what, boolean got, boolean due) {
        leaves(what, got ? 1 : 0, due ? 1 : 0);
    }

    /** Holds what was quoted against the document: the words stand there, and none of it is left out. */
    static void compareWithDocument() throws IOException {
        for (Sentence sentence : TOLD) {
            Check.due("\"" + sentence.words + "\" has a case that it takes", sentence.taken > 0, true);
        }
        Path path = Path.of(System.getProperty("project.root", "."), "../shared/DOC.md");
        if (!Files.exists(path)) {
            System.out.println("no document at " + path + ": the quotations are not compared");
            return;
        }
        String whole = Files.readString(path).replaceAll("(?m)^(```.*|#.*)$", "\n").replaceAll("(?m)^  ", "");
        String document = whole.replaceAll("\\s+", " ");
        String terms = between(Files.readString(path), "## Terms", "The constants:");
        boolean[] quoted = new boolean[document.length()];
        for (Sentence sentence : TOLD) {
            sentence.mark(document, quoted);
        }
        for (String piece : pieces(terms)) {
            Check.due("of the terms, \"" + piece + "\" is quoted", isQuoted(document, quoted, piece), true);
        }
        for (int promise = 1; promise <= PROMISES; promise++) {
            comparePromise(promise, between(Files.readString(path), "## Promise " + promise + ":", "## "), document, quoted);
        }
    }

    private static void comparePromise(int promise, String text, String document, boolean[] quoted) {
        int taken = 0;
        int refused = 0;
        for (Sentence sentence : TOLD) {
            if (sentence.promise == promise) {
                taken += sentence.taken;
                refused += sentence.refused;
            }
        }
        String sayings = text.replaceFirst("^[^`]*`[^`]*`: ", "");
        Check.due("promise " + promise + " has a case that it takes", taken > 0, true);
        if (REFUSES.matcher(sayings).find()) {
            Check.due("promise " + promise + " has a case that it doesn't take", refused > 0, true);
        }
        for (String piece : pieces(sayings)) {
            Check.due("of promise " + promise + ", \"" + piece + "\" is quoted", isQuoted(document, quoted, piece), true);
        }
    }

    private void mark(String document, boolean[] quoted) {
        int found = 0;
        for (int at = document.indexOf(words); at >= 0; at = document.indexOf(words, at + 1)) {
            found++;
            for (int i = 0; i < words.length(); i++) quoted[at + i] = true;
        }
        Check.due("\"" + words + "\" stands in the document", found > 0, true);
    }

    // Each part up to a full stop or a semicolon; the dots of "0 .. 7" end nothing.
    private static List<String> pieces(String text) {
        List<String> pieces = new ArrayList<>();
        Matcher m = Pattern.compile("(?:[^.;]|(?<=[ .])\\.|(?<= );)+[.;)]*").matcher(text);
        while (m.find()) {
            String piece = m.group().trim();
            boolean isHeading = piece.startsWith("====");
            if (!isHeading && piece.chars().anyMatch(Character::isLetter)) pieces.add(piece);
        }
        return pieces;
    }

    private static boolean isQuoted(String document, boolean[] quoted, String piece) {
        for (int at = document.indexOf(piece); at >= 0; at = document.indexOf(piece, at + 1)) {
            for (int i = 0; i < piece.length(); i++) {
                if (quoted[at + i]) return true;
            }
        }
        return false;
    }

    private static String between(String document, String from, String to) {
        int start = document.indexOf(from) + from.length();
        int end = document.indexOf(to, start);
        String part = document.substring(start, end < 0 ? document.length() : end);
        return part.replaceAll("(?m)^(```.*|#.*)$", "\n").replaceAll("\\s+", " ").trim();
    }
}
