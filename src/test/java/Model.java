import java.util.ArrayList;
import java.util.Arrays;
import java.util.HashMap;
import java.util.List;
import java.util.Map;
import java.util.Set;
import java.util.TreeSet;

/**
 * The document once more, in the plainest way that comes to mind (sets, lists, trying all), so that
 * the class can be held against it. It shares no code and, where there is a choice, no way with it.
 */
public final class Model {
    private static final class State {
        int[] rooms = {2, 2, 2, 2, 2, 2, 2, 2};
        int[] income = new int[8];
        List<Set<Integer>> kept = new ArrayList<>();
        List<int[]> roads = new ArrayList<>();
        List<int[]> rumours = new ArrayList<>(); // truth, purse, purse as told
        int day = 0;
        int paid = 0;
        int x = 379;
        List<int[]> book = new ArrayList<>();
        List<ModelText> texts = new ArrayList<>();
        int ruling = -1;
        List<State> steps = new ArrayList<>();
        List<int[]> heard = new ArrayList<>();
        List<Integer> guests = new ArrayList<>();
        List<int[]> said = new ArrayList<>();

        State() {
            for (int h = 0; h < 8; h++) kept.add(new TreeSet<>());
        }

        State copy(boolean withSteps) {
            State s = new State();
            s.rooms = rooms.clone();
            s.income = income.clone();
            for (int h = 0; h < 8; h++) s.kept.set(h, new TreeSet<>(kept.get(h)));
            s.roads = new ArrayList<>(roads);
            for (int[] r : rumours) s.rumours.add(r.clone());
            s.day = day;
            s.paid = paid;
            s.x = x;
            s.book = new ArrayList<>(book);
            s.texts = new ArrayList<>(texts);
            s.ruling = ruling;
            if (withSteps) s.steps = new ArrayList<>(steps);
            s.heard = new ArrayList<>(heard);
            s.guests = new ArrayList<>(guests);
            s.said = new ArrayList<>(said);
            return s;
        }
    }

    private State s = new State();
    private State image = s.copy(true);
    private final List<Integer> tape = new ArrayList<>();
    private int fault = -1;
    private int place = -1;

    private static boolean in(int v, int lo, int hi) {
        return lo <= v && v <= hi;
    }

    private boolean rumourThere(int r) {
        return in(r, 0, s.rumours.size() - 1);
    }

    private static boolean beside(State t, int a, int b) {
        for (int[] r : t.roads) if (r[0] == a && r[1] == b || r[0] == b && r[1] == a) return true;
        return false;
    }

    public int road(int a, int b) {
        if (!in(a, 0, 7) || !in(b, 0, 7) || a == b || s.roads.size() == 12 || beside(s, a, b)) return -1;
        s.roads.add(new int[] {a, b});
        return s.roads.size() - 1;
    }

    public int rumour(int truth, int purse) {
        if (!in(truth, 0, 1) || !in(purse, 0, 999) || s.rumours.size() == 4) return -1;
        s.rumours.add(new int[] {truth, purse, purse});
        return s.rumours.size() - 1;
    }

    public boolean rooms(int house, int rooms) {
        if (!in(house, 0, 7) || !in(rooms, 0, 4)) return false;
        s.rooms[house] = rooms;
        return true;
    }

    public int feed(int a, int b, int c, int d, int e) {
        if (tape.size() > 280) return -1;
        for (int v : new int[] {a, b, c, d, e}) {
            for (int i = 3; i >= 0; i--) tape.add((v >>> (8 * i)) & 0xff);
        }
        return tape.size();
    }

    public int end(int n) {
        if (!in(n, 0, tape.size())) return -1;
        while (tape.size() > n) tape.remove(tape.size() - 1);
        return n;
    }

    public int text() {
        if (s.texts.size() == 4) return -1;
        ModelText t = new ModelText(tape);
        tape.clear();
        fault = t.fault;
        place = t.place;
        if (fault != 0) return -1;
        s.texts.add(t);
        return s.texts.size() - 1;
    }

    public int fault(int what) {
        return what == 0 ? fault : what == 1 ? place : -1;
    }

    public boolean by(int text) {
        if (!in(text, -1, s.texts.size() - 1)) return false;
        s.ruling = text;
        return true;
    }

    // ---- what is done

    private static int believed(State t, ModelText law, int house, int rumour) {
        if (law == null || !law.laws.containsKey("believes")) return 1;
        return Math.max(-99, Math.min(99, law.value("believes", names(t, house, rumour), keptCounts(t))));
    }

    private static int rented(State t, ModelText law, int house, int rumour) {
        if (law == null || !law.laws.containsKey("rent")) {
            return keepers(t, rumour) * (t.rumours.get(rumour)[0] == 1 ? 2 : 1);
        }
        return Math.max(0, Math.min(99, law.value("rent", names(t, house, rumour), keptCounts(t))));
    }

    private static int keepers(State t, int rumour) {
        int n = 0;
        for (Set<Integer> k : t.kept) if (k.contains(rumour)) n++;
        return n;
    }

    private static int[] keptCounts(State t) {
        int[] n = new int[8];
        for (int h = 0; h < 8; h++) n[h] = t.kept.get(h).size();
        return n;
    }

    private static Map<String, Integer> names(State t, int house, int rumour) {
        Map<String, Integer> m = new HashMap<>();
        m.put("day", t.day);
        m.put("house", house);
        m.put("number", rumour);
        m.put("truth", t.rumours.get(rumour)[0]);
        m.put("purse", t.rumours.get(rumour)[1]);
        int near = 0;
        for (int h = 0; h < 8; h++) if (beside(t, house, h) && t.kept.get(h).contains(rumour)) near++;
        m.put("near", near);
        m.put("free", t.rooms[house] - t.kept.get(house).size());
        m.put("all", keepers(t, rumour));
        m.put("income", t.income[house]);
        return m;
    }

    private static ModelText ruling(State t) {
        return t.ruling < 0 ? null : t.texts.get(t.ruling);
    }

    private static boolean doTell(State t, int house, int rumour) {
        if (t.kept.get(house).contains(rumour) || t.kept.get(house).size() >= t.rooms[house]
            || believed(t, ruling(t), house, rumour) <= 0) return false;
        t.kept.get(house).add(rumour);
        t.book.add(new int[] {t.day, house, rumour});
        while (t.book.size() > 30) t.book.remove(0);
        return true;
    }

    private static int draw(State t, int by) {
        int d = t.x % by;
        t.x = (t.x * 631 + 497) % 30881;
        return d;
    }

    private static boolean doDay(State t) {
        if (t.day == 9999) return false;
        t.paid = 0;
        for (int r = 0; r < t.rumours.size(); r++) {
            for (int h = 0; h < 8; h++) {
                if (!t.kept.get(h).contains(r)) continue;
                int sum = Math.min(rented(t, ruling(t), h, r), t.rumours.get(r)[1]);
                t.rumours.get(r)[1] -= sum;
                t.income[h] = Math.min(9999, t.income[h] + sum);
                t.paid += sum;
            }
        }
        if (!t.rumours.isEmpty()) {
            int h = draw(t, 8);
            int r = draw(t, t.rumours.size());
            if (t.kept.get(h).contains(r)) {
                for (int o = 0; o < 8; o++) if (beside(t, h, o)) doTell(t, o, r);
            }
        }
        t.day++;
        return true;
    }

    private void step(State before) {
        s.steps.add(before);
        while (s.steps.size() > 30) s.steps.remove(0);
    }

    public boolean tell(int house, int rumour) {
        if (!in(house, 0, 7) || !rumourThere(rumour)) return false;
        State before = s.copy(false);
        if (!doTell(s, house, rumour)) return false;
        step(before);
        return true;
    }

    public boolean hush(int house, int rumour) {
        if (!in(house, 0, 7) || !rumourThere(rumour) || !s.kept.get(house).contains(rumour)) return false;
        step(s.copy(false));
        s.kept.get(house).remove(rumour);
        return true;
    }

    public boolean gift(int rumour, int sum) {
        if (!rumourThere(rumour) || !in(sum, 1, 999) || s.rumours.get(rumour)[1] + sum > 9999) return false;
        step(s.copy(false));
        s.rumours.get(rumour)[1] += sum;
        return true;
    }

    public int day(int n) {
        if (!in(n, 1, 60) || s.day + n > 9999) return -1;
        int sum = 0;
        for (int i = 0; i < n; i++) {
            step(s.copy(false));
            doDay(s);
            sum += s.paid;
        }
        return sum;
    }

    public int played(int text) {
        if (!in(text, 0, s.texts.size() - 1)) return -2;
        List<String[]> clauses = s.texts.get(text).clauses;
        for (int i = 0; i < clauses.size(); i++) {
            String[] c = clauses.get(i);
            int a = c.length > 1 ? Integer.parseInt(c[1]) : 0;
            int b = c.length > 2 ? Integer.parseInt(c[2]) : 0;
            boolean done = true;
            switch (c[0]) {
                case "road" -> done = road(a, b) >= 0;
                case "rumour" -> done = rumour(a, b) >= 0;
                case "rooms" -> done = rooms(b, a);
                case "tell" -> done = tell(a, b);
                case "hush" -> done = hush(a, b);
                case "day" -> {
                    for (int d = 0; d < a; d++) done = day(1) >= 0;
                }
                default -> { }
            }
            if (!done) return i;
        }
        return -1;
    }

    public int years(int seed, int n) {
        if (!in(seed, 0, 9999) || !in(n, 1, 40)) return -1;
        step(s.copy(false));
        s.x = seed * 2 + 379;
        for (int i = 0; i < n; i++) {
            int x = s.x;
            draw(s, 2);
            int many = s.rumours.size();
            int h = x / 6 % 8;
            if (x % 6 >= 4) {
                doDay(s);
            } else if (many > 0) {
                int r = x % many;
                if (x % 6 < 2) doTell(s, h, r);
                else if (x % 6 == 2) s.kept.get(h).remove(r);
                else if (s.rumours.get(r)[1] + 1 + x / 6 % 9 <= 9999) s.rumours.get(r)[1] += 1 + x / 6 % 9;
            }
        }
        return s.day;
    }

    public int undo() {
        if (s.steps.isEmpty()) return -1;
        State b = s.steps.remove(s.steps.size() - 1);
        s.income = b.income.clone();
        for (int h = 0; h < 8; h++) s.kept.set(h, new TreeSet<>(b.kept.get(h)));
        for (int r = 0; r < s.rumours.size(); r++) {
            int[] now = s.rumours.get(r).clone();
            now[1] = r < b.rumours.size() ? b.rumours.get(r)[1] : now[2];
            s.rumours.set(r, now);
        }
        s.paid = b.paid;
        s.day = b.day;
        s.x = b.x;
        s.book = new ArrayList<>(b.book);
        return s.steps.size();
    }

    // ---- what is asked

    private static int bits(Set<Integer> set) {
        int b = 0;
        for (int v : set) b += 1 << v;
        return b;
    }

    public int of(int house, int what) {
        if (!in(house, 0, 7)) return -1;
        if (what == 0) return s.rooms[house];
        if (what == 1) return bits(s.kept.get(house));
        if (what == 2) return s.income[house];
        int b = 0;
        for (int h = 0; h < 8; h++) if (beside(s, house, h)) b += 1 << h;
        return what == 3 ? b : -1;
    }

    public int ofRumour(int rumour, int what) {
        if (!rumourThere(rumour) || !in(what, 0, 2)) return -1;
        int b = 0;
        for (int h = 0; h < 8; h++) if (s.kept.get(h).contains(rumour)) b += 1 << h;
        return what == 2 ? b : s.rumours.get(rumour)[what];
    }

    public int believes(int house, int rumour) {
        return in(house, 0, 7) && rumourThere(rumour) ? believed(s, ruling(s), house, rumour) : -100;
    }

    public int rent(int house, int rumour) {
        return in(house, 0, 7) && rumourThere(rumour) ? rented(s, ruling(s), house, rumour) : -100;
    }

    public int is(int what) {
        return in(what, 0, 3) ? new int[] {s.day, s.x, s.roads.size(), s.paid}[what] : -2;
    }

    public int book(int i, int what) {
        if (i == -1) return s.book.size();
        return in(i, 0, s.book.size() - 1) && in(what, 0, 2) ? s.book.get(i)[what] : -2;
    }

    public int foretold(int n, int what, int which) {
        if (!in(n, 1, 60)) return -1;
        State t = s.copy(false);
        for (int i = 0; i < n; i++) doDay(t);
        if (what == 0 && in(which, 0, 7)) return bits(t.kept.get(which));
        if (what == 1 && rumourThere(which)) return t.rumours.get(which)[1];
        return -1;
    }

    // All ways without a house twice, by trying all of them.
    private List<List<Integer>> ways(int a, int b) {
        List<List<Integer>> found = new ArrayList<>();
        goOn(new ArrayList<>(List.of(a)), b, found);
        return found;
    }

    private void goOn(List<Integer> way, int b, List<List<Integer>> found) {
        int here = way.get(way.size() - 1);
        if (here == b) {
            found.add(new ArrayList<>(way));
            return;
        }
        for (int h = 0; h < 8; h++) {
            if (beside(s, here, h) && !way.contains(h)) {
                way.add(h);
                goOn(way, b, found);
                way.remove(way.size() - 1);
            }
        }
    }

    // Ways come in the order of their houses, so the first of the shortest is the lowest.
    private List<Integer> shortest(int a, int b) {
        List<Integer> best = null;
        for (List<Integer> w : ways(a, b)) if (best == null || w.size() < best.size()) best = w;
        return best;
    }

    private int[][] distances() {
        int[][] d = new int[8][8];
        for (int a = 0; a < 8; a++) {
            for (int b = 0; b < 8; b++) d[a][b] = a == b ? 0 : beside(s, a, b) ? 1 : 1000;
        }
        for (int k = 0; k < 8; k++) {
            for (int a = 0; a < 8; a++) {
                for (int b = 0; b < 8; b++) d[a][b] = Math.min(d[a][b], d[a][k] + d[k][b]);
            }
        }
        return d;
    }

    public int far(int a, int b) {
        if (!in(a, 0, 7) || !in(b, 0, 7)) return -1;
        int d = distances()[a][b];
        return d >= 1000 ? -1 : d;
    }

    public int path(int a, int b, int i) {
        if (!in(a, 0, 7) || !in(b, 0, 7)) return -2;
        List<Integer> w = shortest(a, b);
        return w != null && in(i, 0, w.size() - 1) ? w.get(i) : -2;
    }

    public int out(int house) {
        if (!in(house, 0, 7)) return -1;
        int most = 0;
        for (int d : distances()[house]) if (d < 1000) most = Math.max(most, d);
        return most;
    }

    public int centre(boolean far) {
        int best = -1;
        for (int h = 0; h < 8; h++) {
            boolean all = Arrays.stream(distances()[h]).allMatch(d -> d < 1000);
            if (all && (best < 0 || out(h) < out(best))) best = h;
        }
        return best < 0 ? -1 : far ? out(best) : best;
    }

    public int wide() {
        int most = 0;
        for (int[] row : distances()) for (int d : row) most = Math.max(most, d);
        return most >= 1000 ? -1 : most;
    }

    public int parts() {
        return partsWith((1 << s.roads.size()) - 1);
    }

    private int partsWith(int open) {
        int[] name = {0, 1, 2, 3, 4, 5, 6, 7};
        for (int i = 0; i < s.roads.size(); i++) {
            if ((open >> i & 1) == 0) continue;
            int from = name[s.roads.get(i)[0]];
            int to = name[s.roads.get(i)[1]];
            for (int h = 0; h < 8; h++) if (name[h] == from) name[h] = to;
        }
        return (int) Arrays.stream(name).distinct().count();
    }

    public int threes() {
        int n = 0;
        for (int set = 0; set < 256; set++) {
            if (Integer.bitCount(set) != 3) continue;
            int joined = 0;
            for (int[] r : s.roads) if ((set >> r[0] & 1) == 1 && (set >> r[1] & 1) == 1) joined++;
            if (joined == 3) n++;
        }
        return n;
    }

    public int trees() {
        int n = 0;
        for (int open = 0; open < 1 << s.roads.size(); open++) {
            if (Integer.bitCount(open) == 7 && partsWith(open) == 1) n++;
        }
        return n;
    }

    // How many colourings there are; the first one, by trying all in order, goes to 'first'.
    private long tryColours(int n, int[] first) {
        long count = 0;
        int total = (int) Math.pow(n, 8);
        for (int code = 0; code < total; code++) {
            int[] c = new int[8];
            int rest = code;
            for (int h = 7; h >= 0; h--) {
                c[h] = rest % n;
                rest /= n;
            }
            boolean fine = true;
            for (int[] r : s.roads) if (c[r[0]] == c[r[1]]) fine = false;
            if (fine) {
                if (count == 0) System.arraycopy(c, 0, first, 0, 8);
                count++;
            }
        }
        return count;
    }

    public long colours(int n) {
        return in(n, 1, 4) ? tryColours(n, new int[8]) : -1;
    }

    public int colour(int n, int house) {
        if (!in(n, 1, 4) || !in(house, 0, 7)) return -2;
        int[] first = new int[8];
        return tryColours(n, first) == 0 ? -2 : first[house];
    }

    private List<List<Integer>> allRounds() {
        List<List<Integer>> found = new ArrayList<>();
        for (int a = 0; a < 8; a++) {
            for (int b = 0; b < 8; b++) for (List<Integer> w : ways(a, b)) if (w.size() == 8) found.add(w);
        }
        found.sort((p, q) -> {
            for (int i = 0; i < 8; i++) if (!p.get(i).equals(q.get(i))) return p.get(i) - q.get(i);
            return 0;
        });
        return found;
    }

    public int round(int i) {
        List<List<Integer>> all = allRounds();
        return in(i, 0, 7) && !all.isEmpty() ? all.get(0).get(i) : -2;
    }

    public int rounds() {
        return allRounds().size();
    }

    public int block(int a, int b, boolean many) {
        if (!in(a, 0, 7) || !in(b, 0, 7) || a == b || beside(s, a, b)) return -1;
        List<List<Integer>> all = ways(a, b);
        for (int count = 0; count <= 6; count++) {
            for (int set = 0; set < 256; set++) {
                if (Integer.bitCount(set) != count || (set >> a & 1) == 1 || (set >> b & 1) == 1) continue;
                boolean cuts = true;
                for (List<Integer> w : all) {
                    boolean hit = false;
                    for (int h : w) hit |= (set >> h & 1) == 1;
                    cuts &= hit;
                }
                if (cuts) return many ? count : set;
            }
        }
        return -1;
    }

    public int agents(int n, boolean many) {
        if (!in(n, 0, 7)) return -1;
        int[][] d = distances();
        for (int count = 1; count <= 8; count++) {
            for (int set = 1; set < 256; set++) {
                if (Integer.bitCount(set) != count) continue;
                boolean all = true;
                for (int h = 0; h < 8; h++) {
                    boolean near = false;
                    for (int g = 0; g < 8; g++) near |= (set >> g & 1) == 1 && d[g][h] <= n;
                    all &= near;
                }
                if (all) return many ? count : set;
            }
        }
        return -1;
    }

    public int reach(int a, int b, boolean low) {
        if (!in(a, 0, 7) || !in(b, 0, 7)) return -1;
        int count = 0;
        for (int open = 0; open < 1 << s.roads.size(); open++) {
            int[] name = {0, 1, 2, 3, 4, 5, 6, 7};
            for (int i = 0; i < s.roads.size(); i++) {
                if ((open >> i & 1) == 0) continue;
                int from = name[s.roads.get(i)[0]];
                int to = name[s.roads.get(i)[1]];
                for (int h = 0; h < 8; h++) if (name[h] == from) name[h] = to;
            }
            if (name[a] == name[b]) count++;
        }
        int under = 1 << s.roads.size();
        int g = gcd(count, under);
        return low ? under / g : count / g;
    }

    private static int gcd(int a, int b) {
        return b == 0 ? a : gcd(b, a % b);
    }

    public int heard(int house, int day) {
        if (house == -1) {
            s.heard.clear();
            return 0;
        }
        if (!in(house, 0, 7) || !in(day, 0, 99) || s.heard.size() == 8) return -2;
        s.heard.add(new int[] {house, day});
        return s.heard.size();
    }

    // The day since when, and by how much the worst is out then: by trying all days.
    private int[] best(int house) {
        int[][] d = distances();
        int[] best = null;
        for (int[] e : s.heard) if (d[house][e[0]] >= 1000) return null;
        for (int day = -300; day <= 300; day++) {
            int worst = 0;
            for (int[] e : s.heard) worst = Math.max(worst, Math.abs(day + d[house][e[0]] - e[1]));
            if (best == null || worst < best[1]) best = new int[] {day, worst};
        }
        return best;
    }

    public int began(int err) {
        if (!in(err, 0, 9)) return -1;
        int b = 0;
        for (int h = 0; h < 8; h++) {
            if (s.heard.isEmpty() || best(h) != null && best(h)[1] <= err) b += 1 << h;
        }
        return b;
    }

    public int since(int house) {
        if (!in(house, 0, 7) || s.heard.isEmpty() || best(house) == null) return -100;
        return best(house)[0];
    }

    public int ask(int err) {
        if (!in(err, 0, 9) || s.heard.isEmpty()) return -1;
        int could = began(err);
        if (Integer.bitCount(could) < 2) return -1;
        int[][] d = distances();
        int asked = -1;
        int fewest = 100;
        for (int h = 0; h < 8; h++) {
            Map<String, Integer> groups = new HashMap<>();
            for (int c = 0; c < 8; c++) {
                if ((could >> c & 1) == 0) continue;
                groups.merge(d[c][h] >= 1000 ? "never" : "" + (since(c) + d[c][h]), 1, Integer::sum);
            }
            int most = groups.values().stream().mapToInt(v -> v).max().getAsInt();
            if (most < fewest) {
                fewest = most;
                asked = h;
            }
        }
        return asked;
    }

    public int pack(int size) {
        if (size == -1) {
            s.guests.clear();
            return 0;
        }
        if (!in(size, 1, 4) || s.guests.size() == 7) return -2;
        s.guests.add(size);
        return s.guests.size();
    }

    private int[] bestPlaces;
    private int fewestPlaces;

    // All ways in order; only one in fewer houses takes the place of one found earlier.
    private void tryPlaces(int guest, int[] left, int[] places) {
        int used = (int) Arrays.stream(places).limit(guest).distinct().count();
        if (used >= fewestPlaces) return;
        if (guest == s.guests.size()) {
            bestPlaces = places.clone();
            fewestPlaces = used;
            return;
        }
        for (int h = 0; h < 8; h++) {
            if (left[h] < s.guests.get(guest)) continue;
            left[h] -= s.guests.get(guest);
            places[guest] = h;
            tryPlaces(guest + 1, left, places);
            left[h] += s.guests.get(guest);
        }
    }

    public int packed(int i) {
        bestPlaces = null;
        fewestPlaces = 100;
        tryPlaces(0, s.rooms.clone(), new int[s.guests.size()]);
        if (bestPlaces == null) return -2;
        if (i == -1) return fewestPlaces;
        return in(i, 0, s.guests.size() - 1) ? bestPlaces[i] : -2;
    }

    public int said(int house, int rumour, int rent) {
        if (house == -1) {
            s.said.clear();
            return 0;
        }
        if (!in(house, 0, 7) || !rumourThere(rumour) || !in(rent, 0, 99) || s.said.size() == 8) return -2;
        s.said.add(new int[] {house, rumour, rent});
        return s.said.size();
    }

    public int whose() {
        int b = 0;
        for (int t = 0; t < s.texts.size(); t++) {
            boolean all = true;
            for (int[] e : s.said) all &= rented(s, s.texts.get(t), e[0], e[1]) == e[2];
            if (all) b += 1 << t;
        }
        return b;
    }

    public int dearest() {
        int best = -1;
        int most = 0;
        for (int r = 0; r < s.rumours.size(); r++) {
            int sum = 0;
            for (int h = 0; h < 8; h++) if (s.kept.get(h).contains(r)) sum += rented(s, ruling(s), h, r);
            if (sum > most) {
                most = sum;
                best = r;
            }
        }
        return best;
    }

    public int richest() {
        int best = -1;
        for (int h = 0; h < 8; h++) if (s.income[h] > (best < 0 ? 0 : s.income[best])) best = h;
        return best;
    }

    public int ledger(int rumour) {
        if (rumour != -1 && !rumourThere(rumour)) return -2;
        return (int) s.book.stream().filter(e -> rumour == -1 || e[2] == rumour).count();
    }

    public int image() {
        image = s.copy(true);
        return s.day;
    }

    public int back() {
        s = image.copy(true);
        return s.day;
    }

    public int about(int what) {
        int[] all = {s.roads.size(), s.rumours.size(), s.texts.size(), s.ruling, s.steps.size(),
            s.heard.size(), s.guests.size(), s.said.size(), tape.size()};
        return in(what, 0, 8) ? all[what] : -2;
    }
}
