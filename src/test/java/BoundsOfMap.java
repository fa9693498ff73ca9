/** Bounds of what the roads decide: promises 24 to 38, part III. */
final class BoundsOfMap {
    private static final int LOW = Integer.MIN_VALUE;
    private static final int HIGH = Integer.MAX_VALUE;
    private static final int[] WRONG_HOUSES = {-1, 8, LOW, HIGH};

    private BoundsOfMap() { }

    static void all() {
        far();
        path();
        pathOfLikeOnes();
        out();
        centre();
        wide();
        parts();
        threes();
        trees();
        colours();
        colour();
        round();
        rounds();
        block();
        blockMost();
        agents();
        reach();
        reachInLowestTerms();
    }

    /** Houses in a row from 0 on, with so many roads. */
    static RumourRent row(int roads) {
        RumourRent t = new RumourRent();
        for (int h = 0; h < roads; h++) t.road(h, h + 1);
        return t;
    }

    static RumourRent ring() {
        RumourRent t = row(7);
        t.road(7, 0);
        return t;
    }

    private static RumourRent star(int centre) {
        RumourRent t = new RumourRent();
        for (int h = 0; h < 8; h++) t.road(centre, h);
        return t;
    }

    // Houses 0 and 7, each beside all of 1 .. 6: twelve roads.
    private static RumourRent sixBetween() {
        RumourRent t = new RumourRent();
        for (int h = 1; h < 7; h++) {
            t.road(0, h);
            t.road(h, 7);
        }
        return t;
    }

    // So many houses from 0 on, each beside all others of them.
    private static RumourRent allJoined(int houses) {
        RumourRent t = new RumourRent();
        for (int a = 0; a < houses; a++) {
            for (int b = a + 1; b < houses; b++) t.road(a, b);
        }
        return t;
    }

    private static void far() {
        Sentence s = Sentence.of(24, "FAR: over how many ROADS at least a HOUSE is from another one (0 from itself); no way.");
        Sentence none = Sentence.of(24, "FAR. NONE: no way, and for others.");
        RumourRent t = row(6);
        s.takes("0 from itself", t.far(0, 0), 0);
        s.takes("0 from itself, without a road", t.far(7, 7), 0);
        s.takes("1", t.far(3, 4), 1);
        s.takes("6", t.far(6, 0), 6);
        none.leaves("no way", t.far(0, 7), -1);
        none.leaves("no way back", t.far(7, 0), -1);
        t.road(6, 7);
        none.takes("7, the farthest that can be", t.far(0, 7), 7);
        s.takes("4 about a ring", ring().far(0, 4), 4);
        s.leaves("5 about a ring, where 3 are enough", ring().far(0, 5), 3);
        for (int w : WRONG_HOUSES) {
            none.leaves("from " + w, t.far(w, 0), -1);
            none.leaves("to " + w, t.far(0, w), -1);
            none.leaves("from and to " + w, t.far(w, w), -1);
        }
    }

    private static void path() {
        Sentence s = Sentence.of(25, "A PATH: the i-th HOUSE. -2: none, there is none such, and for others.");
        RumourRent t = row(7);
        for (int i = 0; i < 8; i++) s.takes("house " + i + " of eight", t.path(0, 7, i), i);
        for (int w : new int[] {-1, 8, LOW, HIGH}) s.leaves("house " + w + " of eight", t.path(0, 7, w), -2);
        for (int i = 0; i < 3; i++) s.takes("house " + i + " of three", t.path(5, 3, i), 5 - i);
        s.leaves("a fourth of three", t.path(5, 3, 3), -2);
        s.takes("the only one, from a house to itself", t.path(5, 5, 0), 5);
        s.leaves("a second one there", t.path(5, 5, 1), -2);
        for (int w : WRONG_HOUSES) {
            s.leaves("from " + w, t.path(w, 0, 0), -2);
            s.leaves("to " + w, t.path(0, w, 0), -2);
            s.leaves("from and to " + w, t.path(w, w, 0), -2);
        }
        RumourRent u = row(6);
        s.leaves("the first where there is none", u.path(0, 7, 0), -2);
        s.leaves("a place before the first where there is none", u.path(0, 7, -1), -2);
        s.takes("itself without a road", u.path(7, 7, 0), 7);
    }

    private static void walk(Sentence s, RumourRent t, int... due) {
        for (int i = 0; i < due.length; i++) {
            s.takes("place " + i, t.path(due[0], due[due.length - 1], i), due[i]);
        }
        s.leaves("a place behind the last", t.path(due[0], due[due.length - 1], due.length), -2);
    }

    private static void pathOfLikeOnes() {
        Sentence s = Sentence.of(25, "A PATH of so many: of like ones the lowest second HOUSE, then the next, .. (both ends too).");
        walk(s, ring(), 0, 1, 2, 3, 4);
        walk(s, ring(), 4, 3, 2, 1, 0);
        walk(s, ring(), 6, 5, 4, 3, 2);
        // The second house goes ahead of the third: 0 2 7 1, not 0 5 3 1.
        walk(s, Check.withRoads(0, 2, 2, 7, 7, 1, 0, 5, 5, 3, 3, 1), 0, 2, 7, 1);
        // From the other end it is the lowest second that counts too: 1 3 5 0.
        walk(s, Check.withRoads(0, 2, 2, 7, 7, 1, 0, 5, 5, 3, 3, 1), 1, 3, 5, 0);
        // The third where the second is the same.
        walk(s, Check.withRoads(0, 6, 6, 5, 6, 4, 5, 1, 4, 1), 0, 6, 4, 1);
        // A low second house on a longer way is none of like ones.
        walk(s, Check.withRoads(0, 1, 1, 2, 2, 3, 0, 6, 6, 3), 0, 6, 3);
    }

    private static void out() {
        Sentence s = Sentence.of(26, "FARTHEST OUT: how far a HOUSE is from the farthest one it can come to.");
        Sentence others = Sentence.of(26, "FARTHEST OUT. NONE for others.");
        s.takes("0, where it can come to none", new RumourRent().out(0), 0);
        s.takes("1", Check.withRoads(0, 1).out(1), 1);
        s.leaves("those it can't come to", row(6).out(7), 0);
        s.takes("6 at the end of seven", row(6).out(0), 6);
        RumourRent t = row(7);
        int[] due = {7, 6, 5, 4, 4, 5, 6, 7};
        for (int h = 0; h < 8; h++) others.takes("house " + h, t.out(h), due[h]);
        for (int w : WRONG_HOUSES) others.leaves("house " + w, t.out(w), -1);
    }

    private static void centre() {
        Sentence s = Sentence.of(27, "A CENTRE: of HOUSES that can come to all others the one that is least far out; of like ones the lowest; none (not all can be come to).");
        Sentence none = Sentence.of(27, "A CENTRE: the HOUSE (far false), how far out (far true). NONE: there is none.");
        none.leaves("no road", new RumourRent().centre(false), -1);
        none.leaves("no road, how far", new RumourRent().centre(true), -1);
        none.leaves("one house apart", row(6).centre(false), -1);
        none.leaves("one house apart, how far", row(6).centre(true), -1);
        none.leaves("house 0 apart", Check.withRoads(1, 2, 2, 3, 3, 4, 4, 5, 5, 6, 6, 7).centre(false), -1);
        s.leaves("a star that one house is not of", Check.withRoads(0, 1, 0, 2, 0, 3, 0, 4, 0, 5, 0, 6).centre(false), -1);
        none.takes("a row: 3 and 4 are alike", row(7).centre(false), 3);
        none.takes("4 out", row(7).centre(true), 4);
        s.takes("a star about 7", star(7).centre(false), 7);
        s.takes("1 out", star(7).centre(true), 1);
        for (int h = 0; h < 7; h++) s.takes("a star about " + h, star(h).centre(false), h);
        s.takes("a ring: all are alike", ring().centre(false), 0);
        s.takes("4 out in a ring", ring().centre(true), 4);
    }

    private static void wide() {
        Sentence s = Sentence.of(28, "WIDE: how far the farthest two are; none.");
        Sentence none = Sentence.of(28, "WIDE. NONE: not all can be come to.");
        none.leaves("no road", new RumourRent().wide(), -1);
        none.leaves("one house apart", row(6).wide(), -1);
        none.leaves("house 0 apart", Check.withRoads(1, 2, 2, 3, 3, 4, 4, 5, 5, 6, 6, 7).wide(), -1);
        s.leaves("a star that one house is not of", Check.withRoads(0, 1, 0, 2, 0, 3, 0, 4, 0, 5, 0, 6).wide(), -1);
        none.takes("a row", row(7).wide(), 7);
        s.takes("a star", star(0).wide(), 2);
        s.takes("a ring", ring().wide(), 4);
        // The farthest two need not have house 0 among them.
        s.takes("a row with 0 in its middle", Check.withRoads(1, 2, 2, 3, 3, 0, 0, 4, 4, 5, 5, 6, 6, 7).wide(), 7);
    }

    private static void parts() {
        Sentence s = Sentence.of(29, "PARTS: sets of HOUSES that can come to one another.");
        Sentence all = Sentence.of(29, "PARTS.");
        all.takes("eight of one each", new RumourRent().parts(), 8);
        RumourRent t = new RumourRent();
        for (int h = 0; h < 7; h++) {
            t.road(h, h + 1);
            s.takes(h + 1 + " roads in a row", t.parts(), 7 - h);
        }
        t.road(7, 0);
        s.takes("a road within a part", t.parts(), 1);
        s.leaves("the only house that can't be come to", row(6).parts(), 2);
        s.takes("twelve roads", sixBetween().parts(), 1);
        s.takes("ten roads among five", allJoined(5).parts(), 4);
        s.takes("four pairs", Check.withRoads(0, 4, 1, 5, 2, 6, 3, 7).parts(), 4);
    }

    private static void threes() {
        Sentence s = Sentence.of(30, "THREES: three HOUSES each beside the other two: how many.");
        Sentence all = Sentence.of(30, "THREES.");
        all.takes("no road", new RumourRent().threes(), 0);
        RumourRent t = Check.withRoads(5, 6, 6, 7);
        s.leaves("two roads of three", t.threes(), 0);
        t.road(7, 5);
        s.takes("the third", t.threes(), 1);
        s.takes("four all joined", allJoined(4).threes(), 4);
        RumourRent five = allJoined(5);
        s.takes("five all joined", five.threes(), 10);
        five.road(5, 0);
        s.leaves("one road more", five.threes(), 10);
        five.road(5, 1);
        s.takes("the twelfth road", five.threes(), 11);
        s.leaves("rounds of four", sixBetween().threes(), 0);
        s.takes("0 and 7", Check.withRoads(0, 7, 7, 1, 1, 0).threes(), 1);
    }

    private static void trees() {
        Sentence s = Sentence.of(31, "TREES: in how many ways ROADS can be left out so that seven are left and all HOUSES can be come to.");
        Sentence all = Sentence.of(31, "TREES.");
        all.takes("no road", new RumourRent().trees(), 0);
        s.leaves("six roads", row(6).trees(), 0);
        s.takes("seven roads", row(7).trees(), 1);
        s.takes("seven roads of a star", star(3).trees(), 1);
        s.leaves("seven roads, a house being apart", Check.withRoads(0, 1, 1, 2, 2, 3, 3, 4, 4, 5, 5, 6, 6, 0).trees(), 0);
        s.leaves("ten roads, three houses being apart", allJoined(5).trees(), 0);
        s.takes("eight roads of a ring", ring().trees(), 8);
        // Of six ways over one house from 0 to 7, one keeps both roads, and five one of the two each.
        s.takes("twelve roads", sixBetween().trees(), 6 * 32);
        RumourRent cube = Check.withRoads(0, 1, 0, 2, 0, 4, 1, 3, 1, 5, 2, 3, 2, 6, 3, 7, 4, 5, 4, 6, 5, 7, 6, 7);
        s.takes("twelve roads of a cube", cube.trees(), 384);
    }

    private static void colours() {
        Sentence s = Sentence.of(32, "COLOURS: in how many ways each HOUSE can have one of n, so that none is like one beside it;");
        Sentence others = Sentence.of(32, "COLOURS: in how many ways. NONE for others (1 .. 4).");
        RumourRent none = new RumourRent();
        others.takes("1 of no road", none.colours(1), 1);
        others.takes("2 of no road", none.colours(2), 256);
        others.takes("3 of no road", none.colours(3), 6561);
        others.takes("4 of no road", none.colours(4), 65536);
        for (int w : new int[] {0, -1, 5, LOW, HIGH}) others.leaves("n " + w, none.colours(w), -1);
        RumourRent one = Check.withRoads(6, 7);
        s.leaves("1 of one road", one.colours(1), 0);
        s.takes("2 of one road", one.colours(2), 128);
        s.leaves("2 of three all joined", allJoined(3).colours(2), 0);
        s.takes("3 of three all joined", allJoined(3).colours(3), 6 * 243);
        s.leaves("3 of four all joined", allJoined(4).colours(3), 0);
        s.takes("4 of four all joined", allJoined(4).colours(4), 24 * 256);
        s.leaves("4 of five all joined", allJoined(5).colours(4), 0);
        s.takes("2 of a ring", ring().colours(2), 2);
        s.takes("2 of a row", row(7).colours(2), 2);
        s.takes("4 of a row", row(7).colours(4), 4 * 2187);
    }

    private static void colour() {
        Sentence s = Sentence.of(33, "THE LOWEST COLOURS (from 0): of HOUSE 0 the lowest, then of 1, ...");
        Sentence others = Sentence.of(33, "THE LOWEST COLOURS: of a HOUSE. -2: no way, and for others.");
        RumourRent none = new RumourRent();
        for (int h = 0; h < 8; h++) others.takes("1 of no road, house " + h, none.colour(1, h), 0);
        for (int w : new int[] {0, -1, 5, LOW, HIGH}) others.leaves("n " + w, none.colour(w, 0), -2);
        for (int w : WRONG_HOUSES) others.leaves("house " + w, none.colour(4, w), -2);
        others.leaves("1 of one road", Check.withRoads(6, 7).colour(1, 0), -2);
        others.leaves("2 of three all joined", allJoined(3).colour(2, 7), -2);
        others.leaves("3 of four all joined", allJoined(4).colour(3, 7), -2);
        others.leaves("4 of five all joined", allJoined(5).colour(4, 7), -2);
        for (int h = 0; h < 8; h++) {
            s.takes("4 of four all joined, house " + h, allJoined(4).colour(4, h), h < 4 ? h : 0);
            s.takes("2 of a ring, house " + h, ring().colour(2, h), h % 2);
            s.takes("4 of a row, house " + h, row(7).colour(4, h), h % 2);
        }
        // With two colours, house 1 must be 1, as the way 0 2 3 1 has it; with three it is 0.
        RumourRent t = Check.withRoads(0, 2, 2, 3, 3, 1);
        int[] two = {0, 1, 1, 0, 0, 0, 0, 0};
        int[] three = {0, 0, 1, 2, 0, 0, 0, 0};
        for (int h = 0; h < 8; h++) {
            s.takes("2 that bind house 1, house " + h, t.colour(2, h), two[h]);
            s.takes("3 that don't, house " + h, t.colour(3, h), three[h]);
            s.leaves("1, which is too few, house " + h, t.colour(1, h), -2);
        }
    }

    private static void round() {
        Sentence s = Sentence.of(34, "A ROUND: all HOUSES one behind the other, each beside the next one (not back to the first): the lowest first, then the lowest next, ..; none.");
        Sentence others = Sentence.of(34, "A ROUND: the i-th HOUSE. -2: none, and for others.");
        RumourRent t = row(7);
        for (int i = 0; i < 8; i++) s.takes("a row, not back to the first, place " + i, t.round(i), i);
        others.takes("the first place", t.round(0), 0);
        others.takes("the last place", t.round(7), 7);
        for (int w : new int[] {-1, 8, LOW, HIGH}) others.leaves("place " + w, t.round(w), -2);
        others.leaves("none: six roads", row(6).round(0), -2);
        others.leaves("none: a star", star(0).round(0), -2);
        others.leaves("none: a place beyond", star(0).round(8), -2);
        int[] ringDue = {0, 1, 2, 3, 4, 5, 6, 7};
        for (int i = 0; i < 8; i++) s.takes("a ring, place " + i, ring().round(i), ringDue[i]);
        // Its ends are 7 and 2: the lower one is first, and 0 can't be.
        RumourRent u = Check.withRoads(7, 0, 0, 6, 6, 1, 1, 5, 5, 3, 3, 4, 4, 2);
        int[] due = {2, 4, 3, 5, 1, 6, 0, 7};
        for (int i = 0; i < 8; i++) s.takes("the lower end first, place " + i, u.round(i), due[i]);
        // Over 1 first there is no round from 0: 1 is where the other end hangs.
        RumourRent v = Check.withRoads(0, 1, 0, 2, 2, 3, 3, 4, 4, 5, 5, 6, 6, 1, 1, 7);
        int[] later = {0, 2, 3, 4, 5, 6, 1, 7};
        for (int i = 0; i < 8; i++) s.takes("the lowest next that goes on, place " + i, v.round(i), later[i]);
        // Three houses that are beside one other house each can't all be ends.
        RumourRent w = Check.withRoads(0, 1, 1, 2, 2, 3, 3, 4, 4, 5, 5, 6, 1, 7);
        for (int i = 0; i < 8; i++) s.leaves("a row with a house beside it, place " + i, w.round(i), -2);
    }

    private static void rounds() {
        Sentence s = Sentence.of(35, "ROUNDS: how many there are (each and the one back are two).");
        Sentence all = Sentence.of(35, "ROUNDS: how many.");
        all.takes("no road", new RumourRent().rounds(), 0);
        s.leaves("six roads", row(6).rounds(), 0);
        s.leaves("a star", star(0).rounds(), 0);
        s.takes("a row and the one back", row(7).rounds(), 2);
        s.takes("a ring: eight roads can be left out", ring().rounds(), 16);
        // From house 3 hangs a row; of 0, 1, 2 beside one another and 3 beside all: 3! ways and back.
        RumourRent t = Check.withRoads(0, 1, 0, 2, 1, 2, 3, 0, 3, 1, 3, 2, 3, 4, 4, 5, 5, 6, 6, 7);
        s.takes("four all joined and a row", t.rounds(), 12);
        s.takes("the same asked again", t.rounds(), 12);
    }

    private static void block() {
        Sentence s = Sentence.of(36, "TO BLOCK: the fewest HOUSES (neither of the two) without which one can't come to the other one; of like ones the lowest set (none at all, if one can't come to the other one as it is); no way (they are beside one another).");
        Sentence none = Sentence.of(36, "TO BLOCK: HOUSES (many false; bits), how many (many true). NONE: no way, and for others (unlike ones).");
        RumourRent t = row(7);
        s.takes("the one between", t.block(0, 2, false), 1 << 1);
        s.takes("the lowest of three between", t.block(7, 3, false), 1 << 4);
        none.takes("one", t.block(0, 7, true), 1);
        none.leaves("two that are beside one another", t.block(6, 7, false), -1);
        none.leaves("how many, of these", t.block(6, 7, true), -1);
        none.leaves("a house and itself", t.block(5, 5, false), -1);
        none.leaves("how many, of that", t.block(5, 5, true), -1);
        for (int w : WRONG_HOUSES) {
            none.leaves("from " + w, t.block(w, 0, false), -1);
            none.leaves("to " + w, t.block(0, w, true), -1);
        }
        RumourRent u = row(6);
        s.takes("none at all, where there is no way", u.block(0, 7, false), 0);
        s.takes("how many, of that", u.block(7, 0, true), 0);
        s.takes("none at all, without a road", new RumourRent().block(0, 1, false), 0);
        s.takes("two of a ring, the lowest set", ring().block(0, 4, false), 1 << 1 | 1 << 5);
        s.takes("two of a ring, 0 among them", ring().block(7, 5, false), 1 | 1 << 6);
        s.leaves("either of the two", Check.withRoads(0, 1, 1, 2).block(0, 2, false), 2);
    }

    private static void blockMost() {
        Sentence s = Sentence.of(36, "the fewest HOUSES (neither of the two) without which one can't come to the other one");
        RumourRent t = sixBetween();
        s.takes("all six others", t.block(0, 7, false), 126);
        s.takes("six", t.block(0, 7, true), 6);
        s.takes("two, 0 and 7 between 1 and 2", t.block(1, 2, false), 129);
        s.leaves("two that are beside one another", t.block(1, 7, true), -1);
    }

    private static void agents() {
        Sentence s = Sentence.of(37, "AGENTS: the fewest HOUSES, so that each HOUSE is n FAR at most from one of them; of like ones the lowest set.");
        Sentence others = Sentence.of(37, "AGENTS: HOUSES (many false; bits), how many (many true). NONE for others (0 .. 7).");
        RumourRent t = row(7);
        others.takes("0 far: all houses", t.agents(0, false), 255);
        others.takes("0 far: eight", t.agents(0, true), 8);
        others.takes("7 far: house 0", t.agents(7, false), 1);
        others.takes("7 far: one", t.agents(7, true), 1);
        for (int w : new int[] {-1, 8, LOW, HIGH}) {
            others.leaves(w + " far", t.agents(w, false), -1);
            others.leaves(w + " far, how many", t.agents(w, true), -1);
        }
        s.leaves("house 0, 6 far", t.agents(6, false), 1 << 1);
        s.takes("house 3, 4 far", t.agents(4, false), 1 << 3);
        s.leaves("one house, 3 far", t.agents(3, true), 2);
        s.takes("houses 0 and 4, 3 far", t.agents(3, false), 1 | 1 << 4);
        s.takes("1 far in a star", star(7).agents(1, false), 1 << 7);
        s.takes("2 far in a star", star(7).agents(2, false), 1);
        s.takes("7 far without a road", new RumourRent().agents(7, true), 8);
        s.takes("7 far, one house being apart", row(6).agents(7, false), 1 | 1 << 7);
        // Both 1 with 2 and 0 with 5 are near all: the set of the lower bits.
        RumourRent u = Check.withRoads(1, 0, 1, 3, 1, 4, 2, 5, 2, 6, 2, 7, 0, 6, 0, 7, 5, 3, 5, 4);
        s.takes("houses 1 and 2", u.agents(1, false), 6);
    }

    private static void likely(Sentence s, String what, RumourRent t, int a, int b, int upper, int lower) {
        s.takes(what + ", upper", t.reach(a, b, false), upper);
        s.takes(what + ", lower", t.reach(a, b, true), lower);
        s.takes(what + ", back, upper", t.reach(b, a, false), upper);
    }

    private static void reach() {
        Sentence s = Sentence.of(38, "REACHED: each ROAD is open or shut, alike: how likely one HOUSE can come to another one (itself: 1)");
        Sentence others = Sentence.of(38, "REACHED: the upper (low false), the lower one (low true). NONE for others.");
        likely(s, "itself without a road", new RumourRent(), 3, 3, 1, 1);
        likely(s, "itself with roads", ring(), 3, 3, 1, 1);
        likely(s, "one road", Check.withRoads(0, 7), 0, 7, 1, 2);
        likely(s, "seven roads in a row", row(7), 0, 7, 1, 128);
        likely(s, "three all joined", allJoined(3), 0, 2, 5, 8);
        likely(s, "a ring, to the next", ring(), 7, 0, 129, 256);
        likely(s, "twelve roads", sixBetween(), 0, 7, 4096 - 729, 4096);
        RumourRent t = row(7);
        others.takes("house 7", t.reach(7, 6, true), 2);
        for (int w : WRONG_HOUSES) {
            others.leaves("from " + w, t.reach(w, 0, false), -1);
            others.leaves("to " + w, t.reach(0, w, true), -1);
            others.leaves("from and to " + w, t.reach(w, w, false), -1);
        }
    }

    private static void reachInLowestTerms() {
        Sentence s = Sentence.of(38, "in lowest terms (0 by 1, 1 by 1).");
        likely(s, "no way without a road", new RumourRent(), 0, 1, 0, 1);
        likely(s, "no way with twelve roads", aloneWithTwelve(), 0, 7, 0, 1);
        likely(s, "1 by 1 with twelve roads", sixBetween(), 4, 4, 1, 1);
        RumourRent t = Check.withRoads(0, 1, 2, 3, 3, 4, 4, 5, 5, 6, 6, 7, 7, 2, 2, 4, 3, 5, 4, 6, 5, 7, 2, 5);
        likely(s, "one road of twelve", t, 0, 1, 1, 2);
        s.leaves("2048 by 4096", t.reach(0, 1, true), 2);
        // Over a ring of four: 7 of 16 across, though there are five roads.
        RumourRent u = Check.withRoads(0, 1, 1, 2, 2, 3, 3, 0, 5, 6);
        likely(s, "14 by 32", u, 0, 2, 7, 16);
    }

    private static RumourRent aloneWithTwelve() {
        RumourRent t = allJoined(5);
        t.road(5, 0);
        t.road(6, 0);
        return t;
    }
}
