/** Promises 24 to 44: the map, who began it, and guests. */
public final class MapTest {
    private static final int LOW = Integer.MIN_VALUE;
    private static final int HIGH = Integer.MAX_VALUE;
    private static final int[][] WRONG_HOUSES = {{-1, 0}, {0, -1}, {8, 0}, {0, 8}, {LOW, 0}, {0, HIGH}};

    public static void main(String[] args) {
        far();
        path();
        outCentreWide();
        parts();
        threes();
        trees();
        colours();
        rounds();
        block();
        agents();
        reach();
        heard();
        since();
        ask();
        pack();
        packed();
        Check.finish("MapTest");
    }

    private static RumourRent ring() {
        return Check.withRoads(0, 1, 1, 2, 2, 3, 3, 4, 4, 5, 5, 6, 6, 7, 7, 0);
    }

    private static RumourRent row() {
        return Check.withRoads(0, 1, 1, 2, 2, 3, 3, 4, 4, 5, 5, 6, 6, 7);
    }

    // The corners of a cube: twelve roads.
    private static RumourRent cube() {
        return Check.withRoads(0, 1, 0, 2, 0, 4, 1, 3, 1, 5, 2, 3, 2, 6, 3, 7, 4, 5, 4, 6, 5, 7, 6, 7);
    }

    private static void far() {
        RumourRent t = ring();
        int[] due = {0, 1, 2, 3, 4, 3, 2, 1};
        for (int h = 0; h < 8; h++) {
            Check.due("24 in a ring", t.far(0, h), due[h]);
            Check.due("24 back", t.far(h, 0), due[h]);
        }
        for (int[] w : WRONG_HOUSES) Check.due("24 others", t.far(w[0], w[1]), -1);
        RumourRent u = Check.withRoads(0, 1, 2, 3);
        Check.due("24 no way", u.far(0, 2), -1);
        Check.due("24 itself", u.far(7, 7), 0);
        Check.due("24 the longest", row().far(7, 0), 7);
    }

    private static void path() {
        RumourRent t = cube();
        int[] due = {0, 1, 3, 7};
        for (int i = 0; i < 4; i++) Check.due("25 the lowest", t.path(0, 7, i), due[i]);
        int[] back = {7, 3, 1, 0};
        for (int i = 0; i < 4; i++) Check.due("25 from the other end", t.path(7, 0, i), back[i]);
        for (int i : new int[] {-1, 4, LOW, HIGH}) Check.due("25 none such", t.path(0, 7, i), -2);
        for (int[] w : WRONG_HOUSES) Check.due("25 others", t.path(w[0], w[1], 0), -2);
        Check.due("25 itself", t.path(5, 5, 0), 5);
        Check.due("25 itself alone", t.path(5, 5, 1), -2);
        RumourRent u = Check.withRoads(0, 1);
        Check.due("25 none", u.path(0, 2, 0), -2);
        Check.due("25 none", u.path(0, 2, -1), -2);
        // The fewest roads come ahead of low numbers.
        RumourRent v = Check.withRoads(0, 1, 1, 2, 2, 7, 0, 6, 6, 7);
        Check.due("25 the shorter", v.path(0, 7, 1), 6);
        Check.due("25 its end", v.path(0, 7, 2), 7);
    }

    private static void outCentreWide() {
        RumourRent t = row();
        int[] due = {7, 6, 5, 4, 4, 5, 6, 7};
        for (int h = 0; h < 8; h++) Check.due("26 in a row", t.out(h), due[h]);
        Check.due("27 house", t.centre(false), 3);
        Check.due("27 how far out", t.centre(true), 4);
        Check.due("28 in a row", t.wide(), 7);
        Check.due("28 asked first", row().wide(), 7);
        Check.due("28 the lowest house is an end", Check.withRoads(0, 1, 1, 2, 1, 3, 1, 4, 1, 5, 1, 6, 1, 7).wide(), 2);
        for (int w : new int[] {-1, 8, LOW, HIGH}) Check.due("26 others", t.out(w), -1);
        RumourRent u = Check.withRoads(0, 1, 1, 2, 4, 5);
        Check.due("26 in its part", u.out(0), 2);
        Check.due("26 alone", u.out(7), 0);
        Check.due("27 none", u.centre(false), -1);
        Check.due("27 none", u.centre(true), -1);
        Check.due("28 none", u.wide(), -1);
        RumourRent star = Check.withRoads(6, 0, 6, 1, 6, 2, 6, 3, 6, 4, 6, 5, 6, 7);
        Check.due("27 of a star", star.centre(false), 6);
        Check.due("27 of a star", star.centre(true), 1);
        Check.due("28 of a star", star.wide(), 2);
        Check.due("27 of like ones", ring().centre(false), 0);
        Check.due("27 of like ones", ring().centre(true), 4);
        RumourRent but = Check.withRoads(0, 1, 1, 2, 2, 3, 3, 4, 4, 5, 5, 6);
        Check.due("27 one alone", but.centre(false), -1);
        Check.due("28 one alone", but.wide(), -1);
    }

    private static void parts() {
        Check.due("29 none joined", new RumourRent().parts(), 8);
        Check.due("29 some", Check.withRoads(0, 1, 1, 2, 4, 5).parts(), 5);
        Check.due("29 a ring more", Check.withRoads(0, 1, 1, 2, 2, 0, 4, 5).parts(), 5);
        Check.due("29 all", ring().parts(), 1);
        Check.due("29 two", Check.withRoads(7, 1, 1, 5, 5, 3, 0, 2, 2, 4, 4, 6).parts(), 2);
    }

    private static void threes() {
        Check.due("30 none", ring().threes(), 0);
        Check.due("30 one", Check.withRoads(5, 6, 6, 7, 7, 5).threes(), 1);
        Check.due("30 four of four", Check.withRoads(0, 1, 0, 2, 0, 3, 1, 2, 1, 3, 2, 3).threes(), 4);
        Check.due("30 ten of five", Check.withRoads(3, 4, 3, 5, 3, 6, 3, 7, 4, 5, 4, 6, 4, 7, 5, 6, 5, 7, 6, 7).threes(), 10);
        Check.due("30 none in a cube", cube().threes(), 0);
    }

    private static void trees() {
        Check.due("31 of none", new RumourRent().trees(), 0);
        Check.due("31 of a row", row().trees(), 1);
        Check.due("31 of a ring", ring().trees(), 8);
        Check.due("31 of a cube", cube().trees(), 384);
        // Five all joined (125 trees), and three hanging on.
        RumourRent t = Check.withRoads(0, 1, 0, 2, 0, 3, 0, 4, 1, 2, 1, 3, 1, 4, 2, 3, 2, 4);
        Check.due("31 not all can be come to", t.trees(), 0);
        RumourRent u = Check.withRoads(0, 1, 0, 2, 0, 3, 1, 2, 1, 3, 2, 3, 3, 4, 4, 5, 5, 6, 6, 7);
        Check.due("31 of four all joined", u.trees(), 16);
        RumourRent v = Check.withRoads(7, 0, 7, 1, 7, 2, 0, 1, 1, 2, 3, 4, 4, 5, 5, 6, 6, 3);
        Check.due("31 two parts", v.trees(), 0);
        v.road(2, 3);
        Check.due("31 joined by one road", v.trees(), 8 * 4);
    }

    private static void colours() {
        RumourRent t = ring();
        // Of a ring of eight: (n-1)^8 + (n-1).
        long[] due = {0, 2, 258, 6564};
        for (int n = 1; n <= 4; n++) Check.due("32 of a ring", t.colours(n), due[n - 1]);
        for (int w : new int[] {0, 5, -1, LOW, HIGH}) Check.due("32 others", t.colours(w), -1);
        long[] none = {1, 256, 6561, 65536};
        for (int n = 1; n <= 4; n++) Check.due("32 without roads", new RumourRent().colours(n), none[n - 1]);
        RumourRent four = Check.withRoads(2, 3, 2, 4, 2, 5, 3, 4, 3, 5, 4, 5);
        Check.due("32 of four all joined", four.colours(3), 0);
        Check.due("32 of four all joined", four.colours(4), 24 * 256);
        Check.due("33 no way", four.colour(3, 0), -2);
        int[] lowest = {0, 0, 0, 1, 2, 3, 0, 0};
        for (int h = 0; h < 8; h++) Check.due("33 of four", four.colour(4, h), lowest[h]);
        for (int h = 0; h < 8; h++) Check.due("33 of a ring", t.colour(2, h), h % 2);
        for (int h = 0; h < 8; h++) Check.due("33 more than are needed", t.colour(4, h), h % 2);
        Check.due("33 one colour", t.colour(1, 0), -2);
        Check.due("33 one colour without roads", new RumourRent().colour(1, 7), 0);
        int[][] wrong = {{0, 0}, {5, 0}, {2, -1}, {2, 8}, {LOW, 0}, {2, HIGH}};
        for (int[] w : wrong) Check.due("33 others", t.colour(w[0], w[1]), -2);
        // What is lowest ahead may have to be taken back: 0 0 of 0 and 1 leave none of two for 2, 3.
        RumourRent u = Check.withRoads(0, 2, 2, 3, 3, 1);
        int[] again = {0, 1, 1, 0, 0, 0, 0, 0};
        for (int h = 0; h < 8; h++) Check.due("33 taken back", u.colour(2, h), again[h]);
    }

    private static void rounds() {
        RumourRent t = row();
        Check.due("35 there and back", t.rounds(), 2);
        for (int i = 0; i < 8; i++) Check.due("34 of a row", t.round(i), i);
        for (int w : new int[] {-1, 8, LOW, HIGH}) Check.due("34 others", t.round(w), -2);
        Check.due("35 of a ring", ring().rounds(), 16);
        Check.due("35 of a cube", cube().rounds(), 144);
        int[] due = {0, 1, 3, 2, 6, 4, 5, 7};
        for (int i = 0; i < 8; i++) Check.due("34 of a cube", cube().round(i), due[i]);
        RumourRent star = Check.withRoads(6, 0, 6, 1, 6, 2, 6, 3, 6, 4, 6, 5, 6, 7);
        Check.due("35 none", star.rounds(), 0);
        Check.due("34 none", star.round(0), -2);
        // The lowest first house need not be 0.
        RumourRent u = Check.withRoads(3, 0, 0, 5, 5, 1, 1, 6, 6, 2, 2, 7, 7, 4);
        int[] other = {3, 0, 5, 1, 6, 2, 7, 4};
        for (int i = 0; i < 8; i++) Check.due("34 its lower end", u.round(i), other[i]);
    }

    private static void block() {
        RumourRent t = row();
        Check.due("36 between", t.block(2, 6, false), 1 << 3);
        Check.due("36 how many", t.block(2, 6, true), 1);
        Check.due("36 from the other end", t.block(6, 2, false), 1 << 3);
        Check.due("36 beside", t.block(2, 3, false), -1);
        Check.due("36 beside", t.block(2, 3, true), -1);
        Check.due("36 itself", t.block(2, 2, false), -1);
        for (int[] w : WRONG_HOUSES) Check.due("36 others", t.block(w[0], w[1], true), -1);
        RumourRent r = ring();
        Check.due("36 in a ring", r.block(0, 4, true), 2);
        Check.due("36 the lowest set", r.block(0, 4, false), 1 << 1 | 1 << 5);
        Check.due("36 the lowest set, 3 and 7", r.block(3, 7, false), 1 | 1 << 4);
        Check.due("36 in a cube", cube().block(0, 7, true), 3);
        Check.due("36 in a cube", cube().block(0, 7, false), 1 << 1 | 1 << 2 | 1 << 4);
        RumourRent u = Check.withRoads(0, 1);
        Check.due("36 apart already", u.block(0, 5, false), 0);
        Check.due("36 apart already", u.block(0, 5, true), 0);
        // The lowest set is the one of the lowest bits together: 1, 2 (6) ahead of 0, 3 (9).
        RumourRent v = Check.withRoads(4, 0, 4, 1, 5, 2, 5, 3, 0, 3, 1, 2, 0, 2);
        Check.due("36 lowest as bits", v.block(4, 5, false), 1 | 1 << 1);
        RumourRent w = Check.withRoads(4, 0, 4, 2, 5, 3, 5, 1, 0, 3, 2, 1);
        Check.due("36 lowest as bits", w.block(4, 5, false), 1 | 1 << 1);
    }

    private static void agents() {
        Check.due("37 all", ring().agents(0, false), 255);
        Check.due("37 all", ring().agents(0, true), 8);
        Check.due("37 of a ring", ring().agents(1, true), 3);
        Check.due("37 the lowest of a ring", ring().agents(1, false), 1 | 1 << 2 | 1 << 5);
        Check.due("37 two far", ring().agents(2, false), 1 | 1 << 3);
        Check.due("37 three far", ring().agents(3, true), 2);
        Check.due("37 four far", ring().agents(4, false), 1);
        Check.due("37 seven far", row().agents(7, false), 1);
        Check.due("37 six far", row().agents(6, false), 2);
        for (int w : new int[] {-1, 8, LOW, HIGH}) {
            Check.due("37 others", row().agents(w, false), -1);
            Check.due("37 others", row().agents(w, true), -1);
        }
        Check.due("37 none joined", new RumourRent().agents(7, true), 8);
        Check.due("37 none joined", new RumourRent().agents(7, false), 255);
        // Two stars, around 1 and 2, or 0 would need far houses: sets by their bits.
        RumourRent u = Check.withRoads(1, 0, 1, 3, 1, 4, 2, 5, 2, 6, 2, 7);
        Check.due("37 two stars", u.agents(1, false), 1 << 1 | 1 << 2);
        // Like ones 0, 7 (129) and 1, 2 (6): the lower bits.
        RumourRent v = Check.withRoads(0, 1, 0, 3, 0, 4, 7, 2, 7, 5, 7, 6, 1, 3, 1, 4, 2, 5, 2, 6);
        Check.due("37 lower bits", v.agents(1, false), 1 | 1 << 2);
        RumourRent x = Check.withRoads(0, 7, 0, 2, 0, 3, 4, 1, 4, 5, 4, 6, 7, 2, 7, 3, 1, 5, 1, 6);
        Check.due("37 lower bits again", x.agents(1, false), 1 | 1 << 1);
        // Either 0 and 5, or 1 and 2 (with no road between the pairs' ends) are near all.
        RumourRent y = Check.withRoads(1, 0, 1, 3, 1, 4, 2, 5, 2, 6, 2, 7, 0, 6, 0, 7, 5, 3, 5, 4);
        Check.due("37 bits 6 ahead of 33", y.agents(1, false), 6);
    }

    private static void reach() {
        RumourRent t = row();
        Check.due("38 upper", t.reach(0, 7, false), 1);
        Check.due("38 lower", t.reach(0, 7, true), 128);
        Check.due("38 itself", t.reach(4, 4, false), 1);
        Check.due("38 itself", t.reach(4, 4, true), 1);
        for (int[] w : WRONG_HOUSES) {
            Check.due("38 others", t.reach(w[0], w[1], false), -1);
            Check.due("38 others", t.reach(w[0], w[1], true), -1);
        }
        RumourRent u = Check.withRoads(0, 1, 1, 2, 2, 3, 3, 0, 5, 6);
        // Over a ring of four: 1 - (1 - 1/4)^2 to the house across, 1 - (1/2)(7/8) to the next.
        Check.due("38 across", u.reach(0, 2, false), 7);
        Check.due("38 across", u.reach(0, 2, true), 16);
        Check.due("38 next", u.reach(0, 1, false), 9);
        Check.due("38 next", u.reach(0, 1, true), 16);
        Check.due("38 never", u.reach(0, 6, false), 0);
        Check.due("38 never", u.reach(0, 6, true), 1);
        Check.due("38 none", new RumourRent().reach(0, 1, true), 1);
        // Four pairs of roads to one house: 1 - (3/4)^6 with six of them.
        RumourRent v = Check.withRoads(0, 1, 0, 2, 0, 3, 0, 4, 0, 5, 0, 6, 7, 1, 7, 2, 7, 3, 7, 4, 7, 5, 7, 6);
        Check.due("38 of twelve", v.reach(0, 7, false), 4096 - 729);
        Check.due("38 of twelve", v.reach(7, 0, true), 4096);
    }

    private static void heard() {
        RumourRent t = row();
        int[][] wrong = {{-2, 0}, {8, 0}, {0, -1}, {0, 100}, {LOW, 0}, {0, HIGH}};
        for (int[] w : wrong) Check.due("39 others", t.heard(w[0], w[1]), -2);
        Check.due("39 first", t.heard(0, 0), 1);
        Check.due("39 the same house", t.heard(0, 99), 2);
        for (int i = 3; i <= 8; i++) Check.due("39 more", t.heard(i - 1, i), i);
        Check.due("39 ninth", t.heard(0, 0), -2);
        Check.due("39 eight", t.about(5), 8);
        Check.due("39 none any more", t.heard(-1, 0), 0);
        Check.due("39 none", t.about(5), 0);
        Check.due("39 none of none", t.heard(-1, HIGH), 0);
        Check.due("39 first again", t.heard(7, 50), 1);
        for (int w : new int[] {-1, 10, LOW, HIGH}) Check.due("40 others", t.began(w), -1);
    }

    private static void since() {
        RumourRent t = row();
        Check.due("40 nothing heard", t.began(0), 255);
        Check.due("41 nothing heard", t.since(0), -100);
        t.heard(2, 5);
        t.heard(6, 5);
        Check.due("40 in the middle", t.began(0), 1 << 4);
        Check.due("41 in the middle", t.since(4), 3);
        // From 3: 5 - 1 and 5 - 3: day 3, one out each.
        Check.due("41 one out", t.since(3), 3);
        Check.due("40 one out", t.began(1), 1 << 3 | 1 << 4 | 1 << 5);
        Check.due("40 two out", t.began(2), 255);
        t.heard(6, 4);
        // From 4: 3, 3 and 2: of like ones the lowest day.
        Check.due("41 the lowest day", t.since(4), 2);
        Check.due("40 none by 0", t.began(0), 0);
        Check.due("40 by one", t.began(1), 1 << 4 | 1 << 5);
        for (int w : new int[] {-1, 8, LOW, HIGH}) Check.due("41 others", t.since(w), -100);
        RumourRent u = row();
        u.heard(7, 0);
        Check.due("41 asked first", u.since(6), -1);
        Check.due("41 below 0", u.since(0), -7);
        RumourRent v = Check.withRoads(0, 1, 2, 3);
        v.heard(0, 4);
        Check.due("40 its part alone", v.began(9), 3);
        Check.due("41 no way", v.since(2), -100);
        v.heard(2, 4);
        Check.due("40 none", v.began(9), 0);
        Check.due("41 none", v.since(0), -100);
        RumourRent w = new RumourRent();
        w.heard(3, 0);
        w.heard(3, 18);
        Check.due("40 by nine", w.began(9), 1 << 3);
        Check.due("40 not by eight", w.began(8), 0);
        Check.due("41 half", w.since(3), 9);
        w.heard(3, 19);
        Check.due("40 not by nine", w.began(9), 0);
        Check.due("41 the lower half", w.since(3), 9);
    }

    private static void ask() {
        RumourRent t = row();
        Check.due("42 nothing heard", t.ask(0), -1);
        t.heard(3, 5);
        Check.due("40 all of them", t.began(0), 255);
        // House 0 would have heard it on 2, 4, 6, 8, 8, 8, 8, 8 (of 0 .. 7), 3 on 5 of all of them,
        // 4 on 6, 6, 6, 6, 4, 4, 4, 4: four alike are the fewest.
        Check.due("42 parts best", t.ask(0), 4);
        for (int w : new int[] {-1, 10, LOW, HIGH}) Check.due("42 others", t.ask(w), -1);
        t.heard(5, 5);
        Check.due("40 one", t.began(0), 1 << 4);
        Check.due("42 one", t.ask(0), -1);
        t.heard(5, 9);
        Check.due("40 none", t.began(0), 0);
        Check.due("42 none", t.ask(0), -1);
        // Two that could have begun it, one of which can never come to 2: but that is in one part.
        RumourRent u = Check.withRoads(4, 5);
        u.heard(4, 3);
        Check.due("40 two", u.began(0), 1 << 4 | 1 << 5);
        Check.due("42 who hears it alike or never doesn't part", u.ask(0), 5);
        // Nobody parts these: 0, the lowest, all the same.
        RumourRent v = Check.withRoads(6, 7, 6, 5, 7, 5);
        v.heard(5, 1);
        v.heard(6, 2);
        v.heard(7, 2);
        Check.due("40 one of three", v.began(0), 1 << 5);
        Check.due("42 one by 0", v.ask(0), -1);
        Check.due("42 three by 1", v.ask(1), 5);
        RumourRent w = Check.withRoads(0, 1);
        w.heard(1, 4);
        Check.due("42 asked first", w.ask(0), 0);
        Check.due("42 the rest of them", w.began(0), 3);
    }

    private static void pack() {
        RumourRent t = new RumourRent();
        for (int w : new int[] {0, 5, -2, LOW, HIGH}) Check.due("43 others", t.pack(w), -2);
        Check.due("43 least", t.pack(1), 1);
        Check.due("43 greatest", t.pack(4), 2);
        for (int i = 3; i <= 7; i++) Check.due("43 more", t.pack(2), i);
        Check.due("43 eighth", t.pack(1), -2);
        Check.due("43 seven", t.about(6), 7);
        Check.due("43 none any more", t.pack(-1), 0);
        Check.due("43 none", t.about(6), 0);
    }

    private static void packed(RumourRent t, int... due) {
        Check.due("44 in how many", t.packed(-1), due[0]);
        for (int i = 1; i < due.length; i++) Check.due("44 guest " + (i - 1), t.packed(i - 1), due[i]);
        Check.due("44 none such", t.packed(due.length - 1), -2);
        Check.due("44 none such", t.packed(LOW), -2);
        Check.due("44 none such", t.packed(HIGH), -2);
        Check.due("44 others", t.packed(-2), -2);
    }

    private static RumourRent withGuests(int[] rooms, int... sizes) {
        RumourRent t = new RumourRent();
        for (int h = 0; h < 8; h++) t.rooms(h, rooms[h]);
        for (int s : sizes) t.pack(s);
        return t;
    }

    private static void packed() {
        packed(new RumourRent(), 0);
        packed(withGuests(new int[8]), 0);
        packed(withGuests(new int[] {2, 2, 2, 2, 2, 2, 2, 2}, 1, 1, 1, 2), 3, 0, 0, 1, 2);
        packed(withGuests(new int[] {2, 2, 2, 2, 2, 2, 2, 2}, 3), -2);
        packed(withGuests(new int[] {1, 1, 1, 4, 1, 1, 1, 1}, 1, 1, 1, 1), 1, 3, 3, 3, 3);
        packed(withGuests(new int[] {1, 1, 1, 4, 1, 1, 1, 1}, 1, 1, 1, 1, 1), 2, 0, 3, 3, 3, 3);
        packed(withGuests(new int[] {0, 4, 3, 4, 4, 4, 4, 4}, 1, 3, 4, 2), 3, 1, 1, 3, 2);
        packed(withGuests(new int[] {1, 1, 1, 1, 1, 1, 1, 0}, 1, 1, 1, 1, 1, 1, 1), 7, 0, 1, 2, 3, 4, 5, 6);
        packed(withGuests(new int[] {1, 1, 1, 1, 1, 1, 0, 0}, 1, 1, 1, 1, 1, 1, 1), -2);
        packed(withGuests(new int[] {4, 0, 0, 0, 0, 0, 0, 4}, 2, 3, 1, 2), 2, 0, 7, 7, 0);
        packed(withGuests(new int[] {0, 0, 0, 0, 0, 4, 0, 4}, 4, 4), 2, 5, 7);
        // One way is nothing to the next: guests go, and rooms change.
        RumourRent u = withGuests(new int[] {1, 2, 3, 4, 0, 0, 0, 0}, 3, 2, 2);
        packed(u, 2, 2, 3, 3);
        u.rooms(3, 1);
        packed(u, -2);
        u.rooms(4, 2);
        packed(u, 3, 2, 1, 4);
        u.pack(-1);
        u.pack(1);
        packed(u, 1, 0);
        // Rumours take no rooms from guests.
        RumourRent t = withGuests(new int[] {2, 0, 0, 0, 0, 0, 0, 0}, 2);
        t.rumour(0, 1);
        t.tell(0, 0);
        packed(t, 1, 0);
        Check.due("44 nothing changes", t.of(0, 1), 1);
    }
}
