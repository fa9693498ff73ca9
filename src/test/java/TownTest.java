/** Promises 1 to 4, 9 to 23 and 45 to 52: the town, what is done in it, and what is asked of it. */
public final class TownTest {
    private static final int LOW = Integer.MIN_VALUE;
    private static final int HIGH = Integer.MAX_VALUE;

    public static void main(String[] args) {
        newObject();
        roads();
        rumours();
        rooms();
        by();
        tell();
        hush();
        gift();
        dayPays();
        dayTells();
        dayEnds();
        played();
        playedLate();
        years();
        yearsWithNothing();
        undo();
        undoLimits();
        undoKeepsWhatIsTold();
        ofHouse();
        ofRumour();
        believesAndRent();
        is();
        book();
        foretold();
        said();
        dearest();
        richest();
        ledger();
        image();
        about();
        Check.finish("TownTest");
    }

    private static void newObject() {
        RumourRent t = new RumourRent();
        for (int h = 0; h < 8; h++) {
            Check.due("1 rooms at first", t.of(h, 0), 2);
            Check.due("1 kept at first", t.of(h, 1), 0);
            Check.due("1 income at first", t.of(h, 2), 0);
            Check.due("1 beside at first", t.of(h, 3), 0);
        }
        int[] is = {0, 379, 0, 0};
        for (int i = 0; i < 4; i++) Check.due("1 is " + i, t.is(i), is[i]);
        int[] about = {0, 0, 0, -1, 0, 0, 0, 0, 0};
        for (int i = 0; i < 9; i++) Check.due("1 about " + i, t.about(i), about[i]);
        t.road(0, 1);
        t.rumour(1, 5);
        t.rooms(3, 4);
        t.tell(0, 0);
        t.day(4);
        t.heard(1, 1);
        t.pack(1);
        t.said(0, 0, 1);
        Check.due("1 back to the new one", t.back(), 0);
        for (int i = 0; i < 4; i++) Check.due("1 back: is " + i, t.is(i), is[i]);
        for (int i = 0; i < 9; i++) Check.due("1 back: about " + i, t.about(i), about[i]);
        Check.due("1 back: rooms", t.of(3, 0), 2);
        Check.due("1 back: kept", t.of(0, 1), 0);
        Check.due("1 back: income", t.of(0, 2), 0);
        Check.due("1 back: beside", t.of(0, 3), 0);
        Check.due("1 back: book", t.book(-1, 0), 0);
        Check.due("1 none", RumourRent.NONE, -1);
    }

    private static void roads() {
        RumourRent t = new RumourRent();
        Check.due("2 first", t.road(3, 7), 0);
        Check.due("2 once", t.road(3, 7), -1);
        Check.due("2 once, back", t.road(7, 3), -1);
        for (int h = 0; h < 8; h++) Check.due("2 alike", t.road(h, h), -1);
        int[][] wrong = {{-1, 0}, {0, -1}, {8, 0}, {0, 8}, {LOW, 0}, {0, HIGH}, {-1, -1}, {32, 0}, {0, 35}};
        for (int[] w : wrong) Check.due("2 others", t.road(w[0], w[1]), -1);
        Check.due("2 nothing done", t.about(0), 1);
        Check.due("2 beside 3", t.of(3, 3), 1 << 7);
        Check.due("2 beside 7", t.of(7, 3), 1 << 3);
        int[][] more = {{0, 1}, {0, 2}, {0, 3}, {0, 4}, {0, 5}, {0, 6}, {0, 7}, {1, 2}, {1, 3}, {1, 4}, {2, 1}, {5, 1}};
        int[] due = {1, 2, 3, 4, 5, 6, 7, 8, 9, 10, -1, 11};
        for (int i = 0; i < more.length; i++) Check.due("2 road " + i, t.road(more[i][0], more[i][1]), due[i]);
        Check.due("2 thirteenth", t.road(6, 7), -1);
        Check.due("2 twelve", t.about(0), 12);
    }

    private static void rumours() {
        RumourRent t = new RumourRent();
        int[][] wrong = {{-1, 0}, {2, 0}, {0, -1}, {0, 1000}, {LOW, 5}, {1, HIGH}};
        for (int[] w : wrong) Check.due("3 others", t.rumour(w[0], w[1]), -1);
        Check.due("3 first", t.rumour(0, 0), 0);
        Check.due("3 second", t.rumour(1, 999), 1);
        Check.due("3 third", t.rumour(1, 1), 2);
        Check.due("3 fourth", t.rumour(0, 998), 3);
        Check.due("3 fifth", t.rumour(0, 5), -1);
        Check.due("3 four", t.about(1), 4);
        Check.due("3 truth", t.ofRumour(1, 0), 1);
        Check.due("3 purse", t.ofRumour(3, 1), 998);
        Check.due("3 kept nowhere", t.ofRumour(0, 2), 0);
    }

    private static void rooms() {
        RumourRent t = new RumourRent();
        Check.due("4 least", t.rooms(0, 0), true);
        Check.due("4 most", t.rooms(7, 4), true);
        Check.due("4 told", t.of(0, 0), 0);
        Check.due("4 told", t.of(7, 0), 4);
        int[][] wrong = {{-1, 0}, {8, 0}, {0, -1}, {0, 5}, {LOW, 1}, {1, HIGH}};
        for (int[] w : wrong) Check.due("4 others", t.rooms(w[0], w[1]), false);
        Check.due("4 nothing done", t.of(1, 0), 2);
        t.rumour(0, 1);
        t.rumour(0, 1);
        t.tell(1, 0);
        t.tell(1, 1);
        Check.due("4 fewer than kept", t.rooms(1, 1), true);
        Check.due("4 kept from before", t.of(1, 1), 3);
        Check.due("4 no step", t.about(4), 2);
    }

    private static void by() {
        RumourRent t = new RumourRent();
        Check.due("9 none there", t.by(0), false);
        Check.due("9 none", t.by(-1), true);
        Check.read(t, "rent 7;");
        Check.read(t, "rent 8;");
        t.rumour(0, 1);
        Check.due("9 not of itself", t.about(3), -1);
        Check.due("9 first", t.by(0), true);
        Check.due("9 first rules", t.rent(0, 0), 7);
        Check.due("9 second", t.by(1), true);
        Check.due("9 second rules", t.rent(0, 0), 8);
        int[] wrong = {2, 3, 4, -2, LOW, HIGH};
        for (int w : wrong) Check.due("9 others", t.by(w), false);
        Check.due("9 still", t.about(3), 1);
        Check.due("9 none again", t.by(-1), true);
        Check.due("9 no law", t.rent(0, 0), 0);
    }

    private static void tell() {
        RumourRent t = new RumourRent();
        Check.due("10 no rumour yet", t.tell(0, 0), false);
        t.rumour(0, 10);
        t.rumour(1, 10);
        t.rumour(1, 10);
        Check.due("10 told", t.tell(0, 1), true);
        Check.due("10 kept already", t.tell(0, 1), false);
        Check.due("10 second room", t.tell(0, 0), true);
        Check.due("10 no room", t.tell(0, 2), false);
        Check.due("10 keeps", t.of(0, 1), 3);
        t.rooms(1, 0);
        Check.due("10 no rooms at all", t.tell(1, 0), false);
        int[][] wrong = {{-1, 0}, {8, 0}, {0, -1}, {0, 3}, {LOW, 0}, {0, HIGH}};
        for (int[] w : wrong) Check.due("10 others", t.tell(w[0], w[1]), false);
        Check.due("10 steps", t.about(4), 2);
        Check.due("10 written", t.book(-1, 0), 2);
        Check.read(t, "believes house-3;");
        t.by(0);
        Check.due("10 believes below 0", t.tell(2, 0), false);
        Check.due("10 believes 0", t.tell(3, 0), false);
        Check.due("10 believes 1", t.tell(4, 0), true);
    }

    private static void hush() {
        RumourRent t = new RumourRent();
        Check.due("11 no rumour", t.hush(0, 0), false);
        t.rumour(0, 10);
        t.rumour(0, 10);
        t.tell(6, 0);
        t.tell(6, 1);
        Check.due("11 not kept", t.hush(5, 0), false);
        Check.due("11 hushed", t.hush(6, 0), true);
        Check.due("11 other stays", t.of(6, 1), 2);
        Check.due("11 once", t.hush(6, 0), false);
        int[][] wrong = {{-1, 1}, {8, 1}, {6, -1}, {6, 2}, {LOW, 1}, {6, HIGH}};
        for (int[] w : wrong) Check.due("11 others", t.hush(w[0], w[1]), false);
        Check.due("11 a step each", t.about(4), 3);
        Check.due("11 book stays", t.book(-1, 0), 2);
    }

    private static void gift() {
        RumourRent t = new RumourRent();
        Check.due("12 no rumour", t.gift(0, 1), false);
        t.rumour(0, 10);
        int[][] wrong = {{0, 0}, {0, -1}, {0, 1000}, {1, 5}, {-1, 5}, {0, LOW}, {0, HIGH}, {HIGH, 1}};
        for (int[] w : wrong) Check.due("12 others", t.gift(w[0], w[1]), false);
        Check.due("12 nothing done", t.ofRumour(0, 1), 10);
        Check.due("12 least", t.gift(0, 1), true);
        Check.due("12 most", t.gift(0, 999), true);
        Check.due("12 given", t.ofRumour(0, 1), 1010);
        for (int i = 0; i < 8; i++) t.gift(0, 999);
        Check.due("12 near the end", t.ofRumour(0, 1), 9002);
        Check.due("12 beyond", t.gift(0, 998), false);
        Check.due("12 just there", t.gift(0, 997), true);
        Check.due("12 full", t.ofRumour(0, 1), 9999);
        Check.due("12 beyond by one", t.gift(0, 1), false);
        Check.due("12 steps", t.about(4), 11);
    }

    private static void dayPays() {
        RumourRent t = new RumourRent();
        Check.due("13 without rumours", t.day(2), 0);
        Check.due("13 no draw without rumours", t.is(1), 379);
        int[] wrong = {0, -1, 61, LOW, HIGH};
        for (int w : wrong) Check.due("13 others", t.day(w), -1);
        Check.due("13 nothing done", t.is(0), 2);
        t.rumour(1, 9);
        t.rumour(0, 100);
        t.tell(0, 0);
        t.tell(4, 0);
        t.tell(4, 1);
        // Two keepers of a true one: 4 each; one of an untrue one: 1.
        Check.due("13 rent of a day", t.day(1), 9);
        Check.due("13 income", t.of(0, 2), 4);
        Check.due("13 income of both", t.of(4, 2), 5);
        Check.due("13 purse", t.ofRumour(0, 1), 1);
        Check.due("13 what the purse has", t.day(1), 2);
        Check.due("13 the lower house first", t.of(0, 2), 5);
        Check.due("13 nothing for the next", t.of(4, 2), 6);
        Check.due("13 empty", t.ofRumour(0, 1), 0);
        Check.due("13 latest rent", t.is(3), 2);
        Check.due("13 more days", t.day(60), 60);
        Check.due("13 latest rent of many", t.is(3), 1);
        Check.due("13 day", t.is(0), 64);
        // Rent as it is then: the first payment changes what the second house is due.
        RumourRent u = new RumourRent();
        Check.read(u, "rent purse/2;");
        u.by(0);
        u.rumour(0, 100);
        u.tell(1, 0);
        u.tell(2, 0);
        Check.due("13 as it is then", u.day(1), 75);
        Check.due("13 first half", u.of(1, 2), 50);
        Check.due("13 half of the half", u.of(2, 2), 25);
        RumourRent v = new RumourRent();
        Check.read(v, "rent 99;");
        v.by(0);
        v.rumour(0, 999);
        v.tell(0, 0);
        for (int i = 0; i < 9; i++) v.gift(0, 999);
        Check.due("13 purse full", v.ofRumour(0, 1), 9990);
        v.day(60);
        v.day(40);
        Check.due("13 income below the end", v.of(0, 2), 9900);
        for (int i = 0; i < 2; i++) v.gift(0, 999);
        Check.due("13 paid all the same", v.day(1), 99);
        Check.due("13 income at the end", v.of(0, 2), 9999);
        Check.due("13 paid further", v.day(1), 99);
        Check.due("13 income stays", v.of(0, 2), 9999);
        Check.due("13 purse is less", v.ofRumour(0, 1), 90 + 1998 - 198);
    }

    private static void dayTells() {
        // X is 379: house 3; then 23479: rumour 23479 mod how many.
        RumourRent t = Check.withRoads(3, 6, 3, 1, 3, 5, 1, 0);
        t.rumour(0, 10);
        t.rooms(5, 0);
        t.tell(3, 0);
        t.day(1);
        Check.due("13 told to those beside with rooms", t.ofRumour(0, 2), 1 << 3 | 1 << 1 | 1 << 6);
        Check.due("13 X", t.is(1), 23747);
        Check.due("13 written by number", t.book(1, 1), 1);
        Check.due("13 written last", t.book(2, 1), 6);
        Check.due("13 written on the day", t.book(2, 0), 0);
        Check.due("13 one step", t.about(4), 2);
        // The second day's house is 3 again (23747 mod 8): all beside keep it or have no rooms.
        t.day(1);
        Check.due("13 nothing further", t.ofRumour(0, 2), 1 << 3 | 1 << 1 | 1 << 6);
        // Of three rumours it is 23479 mod 3 = 1.
        RumourRent u = Check.withRoads(3, 2);
        u.rumour(0, 10);
        u.rumour(0, 10);
        u.rumour(0, 10);
        u.rooms(3, 4);
        for (int i = 0; i < 3; i++) u.tell(3, i);
        u.day(1);
        Check.due("13 the drawn rumour alone", u.of(2, 1), 2);
        RumourRent w = Check.withRoads(3, 2);
        w.rumour(0, 10);
        w.rumour(0, 10);
        w.tell(3, 0);
        w.day(1);
        Check.due("13 it isn't kept there", w.of(2, 1), 0);
        // As it is then: house 2 believes it only when house 0 beside it keeps it already.
        RumourRent v = Check.withRoads(3, 0, 3, 2, 0, 2);
        Check.read(v, "believes near-house;");
        v.rumour(0, 10);
        v.tell(3, 0);
        v.by(0);
        v.day(1);
        Check.due("13 belief before and after", v.ofRumour(0, 2), 1 << 3 | 1);
        RumourRent y = Check.withRoads(3, 0, 3, 2, 0, 2);
        Check.read(y, "believes near-house/2;");
        y.rumour(0, 10);
        y.tell(3, 0);
        y.by(0);
        y.day(1);
        Check.due("13 belief as it is then", y.ofRumour(0, 2), 1 << 3 | 1 | 1 << 2);
    }

    private static void dayEnds() {
        RumourRent t = new RumourRent();
        for (int i = 0; i < 166; i++) t.day(60);
        t.day(30);
        Check.due("13 near the last", t.is(0), 9990);
        Check.due("13 beyond", t.day(10), -1);
        Check.due("13 nothing is done", t.is(0), 9990);
        Check.due("23 those that can pass", t.foretold(60, 0, 0), 0);
        Check.due("13 to the last", t.day(9), 0);
        Check.due("13 the last", t.is(0), 9999);
        Check.due("13 none can pass", t.day(1), -1);
        t.rumour(1, 50);
        t.tell(0, 0);
        Check.due("23 none can pass", t.foretold(5, 1, 0), 50);
        Check.due("22 written on the last", t.book(0, 0), 9999);
        // 383: a day, that can't pass; X is new all the same.
        Check.due("15 no day can pass", t.years(2, 1), 9999);
        Check.due("15 X", t.is(1), 26003);
        Check.due("15 purse", t.ofRumour(0, 1), 50);
    }

    private static void played() {
        RumourRent t = new RumourRent();
        Check.due("14 none", t.played(0), -2);
        Check.read(t, "rumour 1 purse 20; rent 3; road 0 to 5; rooms 4 at 3; tell 5 of 0; day 2; hush 5 of 0; believes 0;");
        int[] wrong = {-1, 1, 4, LOW, HIGH};
        for (int w : wrong) Check.due("14 others", t.played(w), -2);
        Check.due("14 all", t.played(0), -1);
        Check.due("14 rumour", t.about(1), 1);
        Check.due("14 truth", t.ofRumour(0, 0), 1);
        Check.due("14 road", t.of(0, 3), 1 << 5);
        Check.due("14 rooms", t.of(3, 0), 4);
        Check.due("14 paid by no law of it", t.ofRumour(0, 1), 16);
        Check.due("14 hushed", t.of(5, 1), 0);
        Check.due("14 day", t.is(0), 2);
        Check.due("14 steps", t.about(4), 4);
        Check.due("14 the text doesn't rule", t.about(3), -1);
        Check.due("14 again: the road", t.played(0), 2);
        Check.due("14 done stays", t.about(1), 2);
        Check.due("14 an empty one", Check.read(t, ""), 1);
        Check.due("14 nothing to do", t.played(1), -1);
        Check.read(t, "believes 1; tell 0 of 3; day 9;");
        Check.due("14 no such rumour", t.played(2), 1);
        Check.due("14 nothing behind it", t.is(0), 2);
        Check.read(t, "road 4 to 4; day 1;");
        Check.due("14 road to itself", t.played(3), 0);
    }

    private static void playedLate() {
        RumourRent t = new RumourRent();
        for (int i = 0; i < 166; i++) t.day(60);
        t.day(35);
        Check.read(t, "rooms 1 at 0; day 3; day 2; rooms 2 at 0;");
        Check.due("14 days that can pass", t.played(0), 2);
        Check.due("14 the last day", t.is(0), 9999);
        Check.due("14 nothing behind", t.of(0, 0), 1);
        Check.due("14 a step each", t.undo(), 29);
        Check.due("14 one back", t.is(0), 9998);
        Check.read(t, "rumour 0 purse 0; rumour 0 purse 0; rumour 0 purse 0; rumour 0 purse 0; rumour 0 purse 0;");
        Check.due("14 the fifth rumour", t.played(1), 4);
        Check.read(t, "hush 0 of 0;");
        Check.due("14 not kept", t.played(2), 0);
    }

    private static void years() {
        RumourRent t = new RumourRent();
        t.rumour(0, 10);
        int[][] wrong = {{-1, 1}, {10000, 1}, {0, 0}, {0, 41}, {0, -1}, {LOW, 1}, {1, HIGH}};
        for (int[] w : wrong) Check.due("15 others", t.years(w[0], w[1]), -1);
        Check.due("15 nothing done", t.about(4), 0);
        // 391: told to house 1; 170: hushed in house 4.
        t.tell(4, 0);
        Check.due("15 told and hushed", t.years(6, 2), 0);
        Check.due("15 kept", t.ofRumour(0, 2), 1 << 1);
        Check.due("15 X", t.is(1), 15124);
        Check.due("15 one step", t.about(4), 2);
        t.years(6, 2);
        Check.due("15 hushed where it isn't kept", t.ofRumour(0, 2), 1 << 1);
        t.undo();
        // 381: given 1; 24741: given 1 and 1.
        t.years(1, 2);
        Check.due("15 given", t.ofRumour(0, 1), 13);
        // 383: a day, whose draws are 26003 (house 3) and 10579.
        Check.due("15 a day", t.years(2, 1), 1);
        Check.due("15 rent", t.is(3), 1);
        Check.due("15 X behind a day", t.is(1), (int) ((10579L * 631 + 497) % 30881));
        Check.due("15 step back", t.undo(), 3);
        Check.due("15 day back", t.is(0), 0);
        Check.due("15 purse back", t.ofRumour(0, 1), 13);
        Check.due("15 greatest", t.years(9999, 40) >= 0, true);
        // 379 mod 3 = 1 to house 7; 23479 mod 3 = 1 to house 1.
        RumourRent u = new RumourRent();
        for (int i = 0; i < 3; i++) u.rumour(0, 5);
        u.years(0, 2);
        Check.due("15 the rumour drawn", u.ofRumour(1, 2), 1 << 7 | 1 << 1);
        Check.due("15 written", u.book(-1, 0), 2);
        RumourRent v = new RumourRent();
        v.rumour(0, 999);
        for (int i = 0; i < 9; i++) v.gift(0, 999);
        v.gift(0, 8);
        v.years(1, 2);
        Check.due("15 given if it can be", v.ofRumour(0, 1), 9999);
        v.rooms(7, 0);
        v.years(0, 1);
        Check.due("15 told if it can be", v.ofRumour(0, 2), 0);
    }

    private static void yearsWithNothing() {
        RumourRent t = new RumourRent();
        Check.due("15 without rumours", t.years(0, 2), 0);
        Check.due("15 X all the same", t.is(1), 23747);
        Check.due("15 a step all the same", t.about(4), 1);
        // 23747 mod 6 = 5: a day, without a draw.
        Check.due("15 a day without rumours", t.years(0, 3), 1);
        Check.due("15 X of three", t.is(1), 7569);
    }

    private static void undo() {
        RumourRent t = Check.withRoads(3, 1);
        Check.due("16 none", t.undo(), -1);
        t.rumour(1, 50);
        t.tell(3, 0);
        t.gift(0, 5);
        t.day(2);
        t.hush(3, 0);
        t.years(6, 3);
        Check.due("16 six", t.about(4), 6);
        Check.due("16 years", t.undo(), 5);
        Check.due("16 X", t.is(1), 20862);
        Check.due("16 kept", t.ofRumour(0, 2), 1 << 1);
        Check.due("16 hush", t.undo(), 4);
        Check.due("16 kept again", t.ofRumour(0, 2), 1 << 1 | 1 << 3);
        Check.due("16 rent of the second day", t.is(3), 8);
        Check.due("16 second day", t.undo(), 3);
        Check.due("16 DAY", t.is(0), 1);
        Check.due("16 rent of the first day", t.is(3), 2);
        Check.due("16 X then", t.is(1), 23747);
        Check.due("16 purse then", t.ofRumour(0, 1), 53);
        Check.due("16 first day", t.undo(), 2);
        Check.due("16 income", t.of(3, 2), 0);
        Check.due("16 book", t.book(-1, 0), 1);
        Check.due("16 rent at first", t.is(3), 0);
        Check.due("16 gift", t.undo(), 1);
        Check.due("16 purse", t.ofRumour(0, 1), 50);
        Check.due("16 tell", t.undo(), 0);
        Check.due("16 kept nowhere", t.of(3, 1), 0);
        Check.due("16 book at first", t.book(-1, 0), 0);
        Check.due("16 no more", t.undo(), -1);
    }

    private static void undoLimits() {
        RumourRent t = new RumourRent();
        t.rumour(0, 0);
        for (int i = 1; i <= 40; i++) t.gift(0, i);
        Check.due("16 thirty", t.about(4), 30);
        for (int i = 29; i >= 0; i--) Check.due("16 back", t.undo(), i);
        Check.due("16 the latest thirty", t.ofRumour(0, 1), 55);
        Check.due("16 none left", t.undo(), -1);
        // A book that has lost its eldest has it again.
        RumourRent u = new RumourRent();
        u.rumour(0, 0);
        for (int i = 0; i < 31; i++) {
            u.tell(i % 8, 0);
            if (i < 30) u.hush(i % 8, 0);
        }
        Check.due("22 full", u.book(-1, 0), 30);
        for (int i = 0; i < 30; i++) Check.due("22 the eldest is gone", u.book(i, 1), (i + 1) % 8);
        u.undo();
        Check.due("16 the eldest again", u.book(0, 1), 0);
        Check.due("16 as many", u.book(-1, 0), 30);
        u.undo();
        u.undo();
        Check.due("16 fewer", u.book(-1, 0), 29);
    }

    private static void undoKeepsWhatIsTold() {
        RumourRent t = new RumourRent();
        t.rumour(0, 7);
        t.tell(0, 0);
        t.rumour(1, 30);
        t.tell(0, 1);
        t.gift(1, 9);
        t.road(0, 4);
        t.rooms(0, 4);
        Check.read(t, "rent 1;");
        t.by(0);
        t.heard(1, 2);
        t.day(1);
        t.undo();
        t.undo();
        t.undo();
        Check.due("16 tell", t.undo(), 0);
        Check.due("16 rumours stay", t.about(1), 2);
        Check.due("16 kept nowhere", t.ofRumour(1, 2), 0);
        Check.due("16 purse as told", t.ofRumour(1, 1), 30);
        Check.due("16 truth", t.ofRumour(1, 0), 1);
        Check.due("16 roads stay", t.of(0, 3), 1 << 4);
        Check.due("16 rooms stay", t.of(0, 0), 4);
        Check.due("16 texts stay", t.about(2), 1);
        Check.due("16 the text stays", t.about(3), 0);
        Check.due("16 heard stays", t.about(5), 1);
        // A purse that has paid since is as told too.
        RumourRent u = new RumourRent();
        u.rumour(0, 5);
        u.tell(0, 0);
        u.rumour(1, 60);
        Check.due("16 tell with a later rumour", u.undo(), 0);
        u.tell(0, 1);
        u.day(3);
        u.undo();
        Check.due("16 purse in between", u.ofRumour(1, 1), 56);
    }

    private static void ofHouse() {
        RumourRent t = Check.withRoads(1, 2, 1, 7);
        t.rumour(1, 9);
        t.rumour(1, 9);
        t.tell(1, 1);
        t.day(1);
        t.rooms(1, 3);
        Check.due("17 rooms", t.of(1, 0), 3);
        Check.due("17 kept", t.of(1, 1), 2);
        Check.due("17 income", t.of(1, 2), 2);
        Check.due("17 beside", t.of(1, 3), 1 << 2 | 1 << 7);
        int[][] wrong = {{-1, 0}, {8, 0}, {0, -1}, {0, 4}, {LOW, 0}, {0, HIGH}, {8, 3}};
        for (int[] w : wrong) Check.due("17 others", t.of(w[0], w[1]), -1);
    }

    private static void ofRumour() {
        RumourRent t = new RumourRent();
        Check.due("18 none there", t.ofRumour(0, 0), -1);
        t.rumour(1, 77);
        t.tell(0, 0);
        t.tell(7, 0);
        Check.due("18 truth", t.ofRumour(0, 0), 1);
        Check.due("18 purse", t.ofRumour(0, 1), 77);
        Check.due("18 keepers", t.ofRumour(0, 2), 129);
        int[][] wrong = {{-1, 0}, {1, 0}, {0, -1}, {0, 3}, {4, 0}, {LOW, 0}, {0, HIGH}};
        for (int[] w : wrong) Check.due("18 others", t.ofRumour(w[0], w[1]), -1);
    }

    private static void believesAndRent() {
        RumourRent t = new RumourRent();
        Check.due("19 no rumour", t.believes(0, 0), -100);
        Check.due("20 no rumour", t.rent(0, 0), -100);
        t.rumour(1, 5);
        t.rumour(0, 5);
        Check.due("19 without a text", t.believes(7, 0), 1);
        Check.due("20 kept nowhere", t.rent(0, 0), 0);
        t.tell(2, 0);
        t.tell(3, 0);
        t.tell(4, 1);
        Check.due("20 true: twice", t.rent(0, 0), 4);
        Check.due("20 not true", t.rent(7, 1), 1);
        int[][] wrong = {{-1, 0}, {8, 0}, {0, -1}, {0, 2}, {LOW, 0}, {0, HIGH}};
        for (int[] w : wrong) {
            Check.due("19 others", t.believes(w[0], w[1]), -100);
            Check.due("20 others", t.rent(w[0], w[1]), -100);
        }
        Check.read(t, "believes 98+house;rent 97+house;");
        Check.read(t, "believes -98-house;rent 1-house;");
        Check.read(t, "rent 50;");
        Check.read(t, "believes 7;");
        t.by(0);
        Check.due("19 most", t.believes(1, 0), 99);
        Check.due("19 no more", t.believes(2, 0), 99);
        Check.due("20 below most", t.rent(1, 0), 98);
        Check.due("20 no more", t.rent(3, 0), 99);
        t.by(1);
        Check.due("19 least", t.believes(1, 0), -99);
        Check.due("19 no less", t.believes(5, 0), -99);
        Check.due("20 one", t.rent(0, 0), 1);
        Check.due("20 no less than 0", t.rent(2, 0), 0);
        t.by(2);
        Check.due("19 without its law", t.believes(0, 0), 1);
        t.by(3);
        Check.due("20 without its law", t.rent(0, 0), 4);
        Check.due("19 with its law", t.believes(0, 0), 7);
    }

    private static void is() {
        RumourRent t = Check.withRoads(0, 1, 1, 2);
        t.rumour(0, 50);
        t.tell(6, 0);
        t.day(3);
        Check.due("21 day", t.is(0), 3);
        Check.due("21 X", t.is(1), 6934);
        Check.due("21 roads", t.is(2), 2);
        Check.due("21 rent", t.is(3), 1);
        t.hush(6, 0);
        t.day(1);
        Check.due("21 rent of a day without", t.is(3), 0);
        for (int w : new int[] {-1, 4, LOW, HIGH}) Check.due("21 others", t.is(w), -2);
    }

    private static void book() {
        RumourRent t = new RumourRent();
        Check.due("22 empty", t.book(-1, 0), 0);
        Check.due("22 none such", t.book(0, 0), -2);
        t.rumour(0, 0);
        t.rumour(0, 0);
        t.tell(5, 1);
        t.day(2);
        t.tell(6, 0);
        Check.due("22 two", t.book(-1, 2), 2);
        int[][] due = {{0, 5, 1}, {2, 6, 0}};
        for (int i = 0; i < 2; i++) {
            for (int j = 0; j < 3; j++) Check.due("22 entry", t.book(i, j), due[i][j]);
        }
        int[][] wrong = {{2, 0}, {-2, 0}, {0, -1}, {0, 3}, {HIGH, 0}, {LOW, 0}, {30, 0}};
        for (int[] w : wrong) Check.due("22 others", t.book(w[0], w[1]), -2);
    }

    private static void foretold() {
        RumourRent t = Check.withRoads(3, 4);
        t.rumour(1, 50);
        t.tell(3, 0);
        Check.due("23 told on", t.foretold(1, 0, 4), 1);
        Check.due("23 rent of a day", t.foretold(1, 1, 0), 48);
        Check.due("23 rent of two", t.foretold(2, 1, 0), 40);
        Check.due("23 of sixty", t.foretold(60, 1, 0), 0);
        int[][] wrong = {{0, 0, 0}, {61, 0, 0}, {1, -1, 0}, {1, 2, 0}, {1, 0, 8}, {1, 0, -1}, {1, 1, 1}, {1, 1, -1},
            {LOW, 0, 0}, {1, 0, HIGH}};
        for (int[] w : wrong) Check.due("23 others", t.foretold(w[0], w[1], w[2]), -1);
        Check.due("23 nothing changes", t.is(1), 379);
        Check.due("23 no day", t.is(0), 0);
        Check.due("23 no rumour", t.of(4, 1), 0);
        Check.due("23 no rent", t.ofRumour(0, 1), 50);
        Check.due("23 no entry", t.book(-1, 0), 1);
        Check.due("23 no step", t.about(4), 1);
    }

    private static void said() {
        RumourRent t = new RumourRent();
        Check.due("45 no rumour", t.said(0, 0, 0), -2);
        Check.due("46 no text", t.whose(), 0);
        t.rumour(1, 9);
        t.tell(0, 0);
        Check.read(t, "rent house*2;");
        Check.read(t, "rent 4;");
        Check.read(t, "believes 5;");
        Check.read(t, "rent 2*all;");
        Check.due("46 nothing said", t.whose(), 15);
        Check.due("45 first", t.said(2, 0, 4), 1);
        Check.due("46 two of them", t.whose(), 3);
        Check.due("45 second", t.said(3, 0, 4), 2);
        Check.due("46 one of them", t.whose(), 2);
        Check.due("45 third", t.said(7, 0, 0), 3);
        Check.due("46 none of them", t.whose(), 0);
        Check.due("45 none any more", t.said(-1, 0, 0), 0);
        Check.due("45 none", t.about(7), 0);
        t.said(1, 0, 2);
        Check.due("46 without a law it is as without a text", t.whose(), 1 | 4 | 8);
        t.tell(5, 0);
        Check.due("46 as now", t.whose(), 1);
        int[][] wrong = {{-2, 0, 0}, {8, 0, 0}, {0, -1, 0}, {0, 1, 0}, {0, 0, -1}, {0, 0, 100}, {LOW, 0, 0}, {0, 0, HIGH}};
        for (int[] w : wrong) Check.due("45 others", t.said(w[0], w[1], w[2]), -2);
        for (int i = 2; i <= 8; i++) Check.due("45 more", t.said(0, 0, i == 8 ? 99 : 0), i);
        Check.due("45 ninth", t.said(0, 0, 0), -2);
        Check.due("45 eight", t.about(7), 8);
        Check.due("45 no more of eight", t.said(-1, HIGH, LOW), 0);
    }

    private static void dearest() {
        RumourRent t = new RumourRent();
        Check.due("47 none", t.dearest(), -1);
        t.rumour(0, 9);
        t.rumour(1, 9);
        t.rumour(0, 9);
        Check.due("47 kept nowhere", t.dearest(), -1);
        t.tell(0, 0);
        Check.due("47 one", t.dearest(), 0);
        t.tell(1, 1);
        Check.due("47 more", t.dearest(), 1);
        t.tell(2, 2);
        t.tell(3, 2);
        Check.due("47 together", t.dearest(), 2);
        t.tell(4, 0);
        Check.due("47 the lowest of like ones", t.dearest(), 0);
        Check.read(t, "rent 0-9;");
        t.by(0);
        Check.due("47 above 0", t.dearest(), -1);
    }

    private static void richest() {
        RumourRent t = new RumourRent();
        Check.due("48 none", t.richest(), -1);
        t.rumour(0, 9);
        t.tell(5, 0);
        t.tell(6, 0);
        t.day(1);
        Check.due("48 the lowest of like ones", t.richest(), 5);
        t.hush(5, 0);
        t.day(1);
        Check.due("48 most", t.richest(), 6);
    }

    private static void ledger() {
        RumourRent t = new RumourRent();
        Check.due("49 empty", t.ledger(-1), 0);
        Check.due("49 no rumour", t.ledger(0), -2);
        t.rumour(0, 0);
        t.rumour(0, 0);
        t.tell(0, 0);
        t.tell(1, 1);
        t.hush(0, 0);
        t.tell(0, 0);
        Check.due("49 twice", t.ledger(0), 2);
        Check.due("49 once", t.ledger(1), 1);
        Check.due("49 all", t.ledger(-1), 3);
        for (int w : new int[] {-2, 2, 4, LOW, HIGH}) Check.due("49 others", t.ledger(w), -2);
    }

    private static void image() {
        RumourRent t = Check.withRoads(0, 1);
        t.rumour(0, 40);
        t.tell(0, 0);
        t.day(2);
        t.rooms(2, 1);
        t.heard(1, 1);
        t.pack(3);
        t.said(0, 0, 1);
        Check.read(t, "rent 5;");
        t.by(0);
        Check.due("50 day", t.image(), 2);
        t.road(1, 2);
        t.rumour(1, 9);
        t.gift(0, 3);
        t.day(1);
        t.years(7, 3);
        t.rooms(2, 3);
        t.heard(-1, 0);
        t.pack(-1);
        t.said(-1, 0, 0);
        Check.read(t, "rent 6;");
        t.by(1);
        Check.read(t, "rent (;");
        Check.put(t, "abc");
        Check.due("51 day", t.back(), 2);
        int[] about = {1, 1, 1, 0, 3, 1, 1, 1, 3};
        for (int i = 0; i < 9; i++) Check.due("51 about " + i, t.about(i), about[i]);
        Check.due("51 the fault isn't of it", t.fault(0), 1);
        Check.due("51 its place neither", t.fault(1), 6);
        Check.due("51 purse", t.ofRumour(0, 1), 38);
        Check.due("51 X", t.is(1), 20862);
        Check.due("51 rent paid", t.is(3), 1);
        Check.due("51 rooms", t.of(2, 0), 1);
        Check.due("51 beside", t.of(1, 3), 1);
        Check.due("51 the law", t.rent(0, 0), 5);
        Check.due("51 since", t.since(1), 1);
        Check.due("51 guests", t.packed(-1), -2);
        Check.due("51 steps", t.undo(), 2);
        Check.due("51 step", t.is(0), 1);
        Check.due("51 it stays", t.back(), 2);
        Check.due("51 steps again", t.about(4), 3);
        Check.read(t, "rent 8;");
        t.by(1);
        Check.due("51 a new text", t.rent(0, 0), 8);
        t.back();
        Check.due("51 the text of the image", t.rent(0, 0), 5);
        t.day(1);
        Check.due("50 again", t.image(), 3);
        t.day(5);
        Check.due("51 to the latest", t.back(), 3);
        imageOfLists();
    }

    private static void imageOfLists() {
        RumourRent t = Check.withRoads(0, 1, 1, 2);
        t.rumour(0, 9);
        t.rumour(1, 9);
        t.rooms(6, 4);
        t.tell(4, 1);
        t.heard(2, 7);
        t.pack(3);
        t.said(4, 1, 3);
        Check.read(t, "rent house/2+number;");
        t.image();
        t.hush(4, 1);
        t.undo();
        t.undo();
        t.tell(5, 0);
        t.heard(-1, 0);
        t.heard(0, 1);
        t.pack(-1);
        t.pack(1);
        t.said(-1, 0, 0);
        t.said(0, 0, 0);
        t.back();
        Check.due("51 book", t.book(-1, 0), 1);
        Check.due("51 book, house", t.book(0, 1), 4);
        Check.due("51 book, rumour", t.book(0, 2), 1);
        Check.due("51 heard, house and day", t.since(0), 5);
        Check.due("51 guest", t.packed(0), 6);
        Check.due("51 said", t.whose(), 1);
        t.said(-1, 0, 0);
        t.said(5, 0, 3);
        Check.due("51 another said", t.whose(), 0);
        t.back();
        Check.due("51 said again", t.whose(), 1);
    }

    private static void about() {
        RumourRent t = Check.withRoads(0, 1, 0, 2);
        t.rumour(0, 1);
        Check.read(t, "rent 1;");
        Check.read(t, "rent 2;");
        Check.read(t, "rent 3;");
        t.by(1);
        t.tell(0, 0);
        t.tell(1, 0);
        t.tell(2, 0);
        t.tell(3, 0);
        for (int i = 0; i < 5; i++) t.heard(i, i);
        for (int i = 0; i < 6; i++) t.pack(1);
        for (int i = 0; i < 7; i++) t.said(i, 0, i);
        t.feed(1, 2, 3, 4, 5);
        int[] due = {2, 1, 3, 1, 4, 5, 6, 7, 20};
        for (int i = 0; i < 9; i++) Check.due("52 about " + i, t.about(i), due[i]);
        for (int w : new int[] {-1, 9, LOW, HIGH}) Check.due("52 others", t.about(w), -2);
    }
}
