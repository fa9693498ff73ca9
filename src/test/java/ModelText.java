import java.math.BigInteger;
import java.util.ArrayDeque;
import java.util.ArrayList;
import java.util.Arrays;
import java.util.Deque;
import java.util.HashMap;
import java.util.List;
import java.util.Map;
import java.util.Set;

/** A text of the model: tokens first, then a table-driven reading with a stack of what is due. */
final class ModelText {
    private static final Set<String> NAMES =
        Set.of("day", "house", "number", "truth", "purse", "near", "free", "all", "income");
    private static final Set<String> SIGNS =
        Set.of("<=", ">=", "<", ">", "=", "#", "+", "-", "*", "/", "(", ")", ";");

    int fault = 0;
    int place = -1;
    final List<String[]> clauses = new ArrayList<>();
    /** Of believes and of rent: where their tokens begin. */
    final Map<String, Integer> laws = new HashMap<>();
    private final List<String> tokens = new ArrayList<>();
    private final List<Integer> starts = new ArrayList<>();
    private int at;

    ModelText(List<Integer> bytes) {
        split(bytes);
        read();
    }

    private static String kindOf(int c) {
        if (c >= 'a' && c <= 'z' || c >= 'A' && c <= 'Z') return "letter";
        if (c >= '0' && c <= '9') return "digit";
        return c == 32 || c == 10 ? "blank" : "other";
    }

    private void split(List<Integer> bytes) {
        StringBuilder all = new StringBuilder();
        for (int b : bytes) all.append((char) b);
        int i = 0;
        while (i < all.length()) {
            String kind = kindOf(all.charAt(i));
            int j = i + 1;
            if (kind.equals("letter") || kind.equals("digit")) {
                while (j < all.length() && kindOf(all.charAt(j)).equals(kind)) j++;
            } else if (j < all.length() && SIGNS.contains(all.substring(i, j + 1))) {
                j++;
            }
            if (!kind.equals("blank")) {
                tokens.add(all.substring(i, j));
                starts.add(i);
            }
            i = j;
        }
        tokens.add("<end>");
        starts.add(all.length());
    }

    private static boolean isNumber(String t) {
        return kindOf(t.charAt(0)).equals("digit");
    }

    // What is due: words stand for themselves, "n:lo:hi" for a number, capitals for parts,
    // "close" for the end of what counts as open.
    private void read() {
        Deque<String> due = new ArrayDeque<>();
        due.push("TEXT");
        String law = "";
        String[] clause = null;
        for (int i = 0; fault == 0 && i < tokens.size(); i++) {
            String t = tokens.get(i);
            while (true) {
                String top = due.isEmpty() ? "" : due.pop();
                if (top.equals("close") || top.equals("done")) {
                    if (top.equals("done")) clauses.add(clause);
                    continue;
                }
                if (top.equals("TEXT")) {
                    if (t.equals("<end>")) break;
                    String[] then = clauseOf(t);
                    if (then == null) fail(1, i);
                    else if (laws.containsKey(t)) fail(4, i);
                    else if (clauses.size() >= 24) fail(6, i);
                    else {
                        if (t.equals("believes") || t.equals("rent")) {
                            law = t;
                            laws.put(t, i + 1);
                        }
                        clause = new String[] {t};
                        due.push("TEXT");
                        due.push("done");
                        push(due, then);
                    }
                    break;
                }
                if (top.startsWith("n:")) {
                    String[] p = top.split(":");
                    if (!isNumber(t)) fail(1, i);
                    else if (!fits(t, p[1], p[2])) fail(2, i);
                    else {
                        String[] longer = Arrays.copyOf(clause, clause.length + 1);
                        longer[clause.length] = new BigInteger(t).toString();
                        clause = longer;
                    }
                    break;
                }
                String[] then = expand(top, t);
                if (then != null) {
                    push(due, then);
                    continue;
                }
                if (top.equals("ONE")) {
                    one(t, i, law, due);
                } else if (top.equals("ASK")) {
                    if (t.equals("not")) open(due, i, "ASK", "close");
                    else {
                        push(due, "SUM", "COMPARE", "SUM");
                        continue;
                    }
                } else if (top.equals("COMPARE")) {
                    if (!Set.of("<", "<=", ">", ">=", "=", "#").contains(t)) fail(1, i);
                } else if (!top.equals(t)) {
                    fail(1, i);
                }
                break;
            }
        }
    }

    private void one(String t, int i, String law, Deque<String> due) {
        if (isNumber(t)) {
            if (!fits(t, "0", "9999")) fail(2, i);
        } else if (NAMES.contains(t)) {
            boolean wrong = t.equals("free") ? !law.equals("believes")
                : (t.equals("all") || t.equals("income")) && !law.equals("rent");
            if (wrong) fail(5, i);
        } else if (t.equals("(")) {
            open(due, i, "SUM", ")", "close");
        } else if (t.equals("-") || t.equals("kept")) {
            open(due, i, "ONE", "close");
        } else if (t.equals("mean")) {
            open(due, i, "ONE", "of", "ONE", "close");
        } else if (t.equals("if")) {
            open(due, i, "EITHER", "then", "SUM", "else", "SUM", "end", "close");
        } else {
            fail(1, i);
        }
    }

    private void open(Deque<String> due, int i, String... then) {
        if (due.stream().filter(d -> d.equals("close")).count() == 8) fail(3, i);
        else push(due, then);
    }

    private static String[] expand(String top, String t) {
        switch (top) {
            case "SUM": return new String[] {"PRODUCT", "MORESUM"};
            case "PRODUCT": return new String[] {"ONE", "MOREPRODUCT"};
            case "EITHER": return new String[] {"BOTH", "MOREEITHER"};
            case "BOTH": return new String[] {"ASK", "MOREBOTH"};
            case "MORESUM":
                return t.equals("+") || t.equals("-") ? new String[] {t, "PRODUCT", "MORESUM"} : new String[0];
            case "MOREPRODUCT":
                return t.equals("*") || t.equals("/") ? new String[] {t, "ONE", "MOREPRODUCT"} : new String[0];
            case "MOREEITHER":
                return t.equals("or") ? new String[] {t, "BOTH", "MOREEITHER"} : new String[0];
            case "MOREBOTH":
                return t.equals("and") ? new String[] {t, "ASK", "MOREBOTH"} : new String[0];
            default: return null;
        }
    }

    private static String[] clauseOf(String t) {
        switch (t) {
            case "believes", "rent": return new String[] {"SUM", ";"};
            case "road": return new String[] {"n:0:7", "to", "n:0:7", ";"};
            case "rumour": return new String[] {"n:0:1", "purse", "n:0:999", ";"};
            case "rooms": return new String[] {"n:0:4", "at", "n:0:7", ";"};
            case "tell", "hush": return new String[] {"n:0:7", "of", "n:0:3", ";"};
            case "day": return new String[] {"n:1:60", ";"};
            default: return null;
        }
    }

    private static boolean fits(String number, String lo, String hi) {
        BigInteger n = new BigInteger(number);
        return n.compareTo(new BigInteger(lo)) >= 0 && n.compareTo(new BigInteger(hi)) <= 0;
    }

    private static void push(Deque<String> due, String... then) {
        for (int i = then.length - 1; i >= 0; i--) due.push(then[i]);
    }

    private void fail(int what, int token) {
        fault = what;
        place = starts.get(token);
    }

    // ---- the value of a law, straight from its tokens

    private Map<String, Integer> names;
    private int[] kept;

    int value(String law, Map<String, Integer> names, int[] kept) {
        this.names = names;
        this.kept = kept;
        at = laws.get(law);
        return (int) sum();
    }

    private boolean takes(String t) {
        if (!tokens.get(at).equals(t)) return false;
        at++;
        return true;
    }

    private static long cut(long v) {
        return v > 1000000 ? 1000000 : v < -1000000 ? -1000000 : v;
    }

    private long sum() {
        long v = product();
        while (true) {
            if (takes("+")) v = cut(v + product());
            else if (takes("-")) v = cut(v - product());
            else return v;
        }
    }

    private long product() {
        long v = one();
        while (true) {
            if (takes("*")) v = cut(v * one());
            else if (takes("/")) {
                long by = one();
                v = by == 0 ? 0 : v / by;
            } else return v;
        }
    }

    private long one() {
        if (takes("(")) {
            long v = sum();
            takes(")");
            return v;
        }
        if (takes("-")) return -one();
        if (takes("mean")) {
            long a = one();
            takes("of");
            return cut((a + one()) / 2);
        }
        if (takes("kept")) {
            long h = one();
            return h >= 0 && h <= 7 ? kept[(int) h] : 0;
        }
        if (takes("if")) {
            boolean asked = either();
            takes("then");
            long a = sum();
            takes("else");
            long b = sum();
            takes("end");
            return asked ? a : b;
        }
        String t = tokens.get(at++);
        return isNumber(t) ? new BigInteger(t).longValue() : names.get(t);
    }

    private boolean either() {
        boolean v = both();
        while (takes("or")) v |= both();
        return v;
    }

    private boolean both() {
        boolean v = asked();
        while (takes("and")) v &= asked();
        return v;
    }

    private boolean asked() {
        if (takes("not")) return !asked();
        long a = sum();
        String sign = tokens.get(at++);
        long b = sum();
        switch (sign) {
            case "<": return a < b;
            case "<=": return a <= b;
            case ">": return a > b;
            case ">=": return a >= b;
            case "=": return a == b;
            default: return a != b;
        }
    }
}
