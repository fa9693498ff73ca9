import java.nio.charset.StandardCharsets;
import java.util.Random;

/** Draws texts: most of them right, some with a token too many, too few or another one. */
final class TextDraw {
    private static final String[] STRAY = {"believes", "rent", "road", "rumour", "rooms", "tell", "hush", "day", "purse",
        "house", "number", "truth", "near", "free", "all", "income", "to", "at", "of", "mean", "kept", "if", "then",
        "else", "end", "or", "and", "not", "<", "<=", ">", ">=", "=", "#", "+", "-", "*", "/", "(", ")", ";", "0", "8",
        "60", "61", "9999", "10000", "0000000000000000007", "99999999999999999999", "foo", "Rent", "believesit", "!",
        "\t", "\0", "\u00e9", "1x", "x1", "==", "<>", "((", "- -"};
    private final Random random;
    private boolean inRent;

    TextDraw(Random random) {
        this.random = random;
    }

    byte[] draw() {
        StringBuilder text = new StringBuilder();
        int clauses = random.nextInt(8) == 0 ? 20 + random.nextInt(8) : random.nextInt(9);
        boolean believes = false;
        boolean rent = false;
        for (int i = 0; i < clauses; i++) {
            int kind = random.nextInt(8);
            boolean again = random.nextInt(40) == 0;
            if (kind == 0 && (!believes || again)) {
                believes = true;
                inRent = false;
                text.append(" believes ").append(sum(3)).append(" ;");
            } else if (kind == 1 && (!rent || again)) {
                rent = true;
                inRent = true;
                text.append(" rent ").append(sum(3)).append(" ;");
            } else {
                text.append(deed(kind));
            }
        }
        if (random.nextInt(12) == 0) text.append(" rent ").append(deep(7 + random.nextInt(4))).append(" ;");
        String result = random.nextInt(4) == 0 ? stray(text.toString()) : text.toString();
        result = blanks(result);
        byte[] bytes = result.getBytes(StandardCharsets.ISO_8859_1);
        return bytes.length <= 300 ? bytes : java.util.Arrays.copyOf(bytes, 300);
    }

    private String deed(int kind) {
        switch (kind) {
            case 0: return " rumour " + random.nextInt(2) + " purse " + random.nextInt(1000) + " ;";
            case 1: return " road " + random.nextInt(8) + " to " + random.nextInt(8) + " ;";
            case 2: return " rooms " + random.nextInt(5) + " at " + random.nextInt(8) + " ;";
            case 3, 4: return " tell " + random.nextInt(8) + " of " + random.nextInt(4) + " ;";
            case 5: return " hush " + random.nextInt(8) + " of " + random.nextInt(4) + " ;";
            default: return " day " + (1 + random.nextInt(random.nextInt(9) == 0 ? 60 : 4)) + " ;";
        }
    }

    private String deep(int levels) {
        if (levels == 0) return "1";
        switch (random.nextInt(7)) {
            case 0: return " ( " + deep(levels - 1) + " ) ";
            case 1: return " - " + deep(levels - 1);
            case 2: return " kept " + deep(levels - 1);
            case 3: return " mean 1 of " + deep(levels - 1);
            case 4: return " mean " + deep(levels - 1) + " of 2 ";
            case 5: return " if not 1 < " + deep(levels - 2 < 0 ? 0 : levels - 2) + " then 1 else 2 end ";
            default: return " if 1 = 1 then " + deep(levels - 1) + " else 2 end ";
        }
    }

    private String stray(String text) {
        String[] tokens = text.split(" ", -1);
        int at = random.nextInt(tokens.length);
        String other = STRAY[random.nextInt(STRAY.length)];
        int how = random.nextInt(3);
        tokens[at] = how == 0 ? other : how == 1 ? "" : tokens[at] + " " + other;
        return String.join(" ", tokens);
    }

    // Blanks go where no tokens would run together; sometimes all stay, sometimes there are lines.
    private String blanks(String text) {
        if (random.nextInt(3) == 0) return text;
        StringBuilder out = new StringBuilder();
        for (int i = 0; i < text.length(); i++) {
            char c = text.charAt(i);
            if (c != ' ') {
                out.append(c);
                continue;
            }
            boolean between = out.length() > 0 && i + 1 < text.length()
                && Character.isLetterOrDigit(out.charAt(out.length() - 1)) && Character.isLetterOrDigit(text.charAt(i + 1));
            if (between) out.append(random.nextInt(9) == 0 ? '\n' : ' ');
        }
        return out.toString();
    }

    private String sum(int depth) {
        StringBuilder s = new StringBuilder(product(depth));
        while (random.nextInt(3) == 0) s.append(random.nextBoolean() ? " + " : " - ").append(product(depth));
        return s.toString();
    }

    private String product(int depth) {
        StringBuilder s = new StringBuilder(one(depth));
        while (random.nextInt(4) == 0) s.append(random.nextBoolean() ? " * " : " / ").append(one(depth));
        return s.toString();
    }

    private String one(int depth) {
        if (depth <= 0 || random.nextInt(3) == 0) return leaf();
        switch (random.nextInt(6)) {
            case 0: return "( " + sum(depth - 1) + " )";
            case 1: return "- " + one(depth - 1);
            case 2: return "mean " + one(depth - 1) + " of " + one(depth - 1);
            case 3: return "kept " + one(depth - 1);
            case 4: return "if " + either(depth - 1) + " then " + sum(depth - 1) + " else " + sum(depth - 1) + " end";
            default: return leaf();
        }
    }

    private String leaf() {
        if (random.nextInt(3) == 0) {
            int[] some = {0, 1, 2, 3, 5, 7, 8, 10, 50, 99, 100, 999, 9999};
            return "" + some[random.nextInt(some.length)];
        }
        String[] both = {"day", "house", "number", "truth", "purse", "near"};
        int i = random.nextInt(8);
        if (i < 6) return both[i];
        if (random.nextInt(60) == 0) return "free";
        return inRent ? (i == 6 ? "all" : "income") : "free";
    }

    private String either(int depth) {
        StringBuilder s = new StringBuilder(both(depth));
        while (random.nextInt(4) == 0) s.append(" or ").append(both(depth));
        return s.toString();
    }

    private String both(int depth) {
        StringBuilder s = new StringBuilder(asked(depth));
        while (random.nextInt(4) == 0) s.append(" and ").append(asked(depth));
        return s.toString();
    }

    private String asked(int depth) {
        if (random.nextInt(5) == 0) return "not " + asked(depth);
        String[] signs = {" < ", " <= ", " > ", " >= ", " = ", " # "};
        return sum(depth) + signs[random.nextInt(6)] + sum(depth);
    }
}
