/** Bounds of what was heard, of guests and of what was said: promises 39 to 46, part IV. */
final class BoundsOfNotes {
    private static final int LOW = Integer.MIN_VALUE;
    private static final int HIGH = Integer.MAX_VALUE;
    private static final int[] WRONG_ERRORS = {-1, 10, LOW, HIGH};

    private BoundsOfNotes() { }

    static void all() {
        heardAtMost();
        heardAsTold();
        sinceWhere();
        sinceNearest();
        sinceBelowNothing();
        sinceOfOthers();
        beganByError();
        beganAsked();
        askBest();
        askNobody();
        guestsAtMost();
        guestsAsTold();
        packedByRooms();
        packedLowest();
        packedNoGuests();
        packedAsked();
        saidAtMost();
        saidAsTold();
        whose();
        whoseAsNow();
    }

    private static void heardAtMost() {
        Sentence s = Sentence.of(39, "HEARD (8 at most; told: a HOUSE heard of it on a DAY 0 .. 99).");
        RumourRent t = new RumourRent();
        for (int i = 1; i <= 8; i++) s.takes("the " + i + "th, of one house", t.heard(5, 10 * i), i);
        s.leaves("a ninth", t.heard(5, 0), -2);
        s.takes("eight", t.about(5), 8);
        s.takes("the eighth of 10 .. 80", t.since(5), 45);
        s.takes("none any more", t.heard(-1, 0), 0);
        s.takes("a first again", t.heard(5, 7), 1);
        s.takes("it alone", t.since(5), 7);
    }

    private static void heardAsTold() {
        Sentence s = Sentence.of(39, "HEARD: how many there are (house NONE: none any more). -2 for others (0 .. 99), or if there are 8.");
        RumourRent t = new RumourRent();
        s.takes("none any more of none", t.heard(-1, 50), 0);
        s.takes("day 0 in house 0", t.heard(0, 0), 1);
        s.takes("day 99 in house 7", t.heard(7, 99), 2);
        for (int w : new int[] {-1, 100, LOW, HIGH}) s.leaves("day " + w, t.heard(0, w), -2);
        for (int w : new int[] {-2, 8, LOW, HIGH}) s.leaves("house " + w, t.heard(w, 50), -2);
        s.takes("two", t.about(5), 2);
        for (int i = 3; i <= 8; i++) t.heard(i - 2, 1);
        s.leaves("a wrong one where there are eight", t.heard(8, 100), -2);
        s.takes("none any more of eight", t.heard(-1, -1), 0);
        s.takes("none", t.about(5), 0);
    }

    private static void sinceWhere() {
        Sentence s = Sentence.of(41, "If it began in a HOUSE that can come to all who HEARD, SINCE WHEN");
        RumourRent t = Check.withRoads(0, 1, 1, 2, 4, 5);
        t.heard(0, 10);
        s.takes("a house that can come to it", t.since(2), 8);
        s.leaves("a house that can't", t.since(3), -100);
        t.heard(2, 10);
        s.takes("a house that can come to both", t.since(1), 9);
        t.heard(4, 10);
        for (int h = 0; h < 8; h++) s.leaves("any that can't come to all three, " + h, t.since(h), -100);
        s.leaves("any of them having begun it", t.began(9), 0);
    }

    // House 3 alone, that heard of it on two days: the day between, and the lower of two.
    private static void sinceNearest() {
        Sentence s = Sentence.of(41, "the DAY by which what was HEARD is nearest to that DAY and as many as it is FAR to each: the greatest that any is out is least; of like ones the lowest DAY (it can be below 0).");
        int[] days = {0, 1, 2, 3, 4, 17, 18, 19, 98, 99};
        int[] due = {0, 0, 1, 1, 2, 8, 9, 9, 49, 49};
        for (int i = 0; i < days.length; i++) {
            RumourRent t = new RumourRent();
            t.heard(3, 0);
            t.heard(3, days[i]);
            s.takes("0 and " + days[i], t.since(3), due[i]);
        }
        // Those between don't count: 0, 1, 1, 1 and 10 make 5, as 0 and 10.
        RumourRent t = new RumourRent();
        for (int day : new int[] {1, 0, 1, 10, 1}) t.heard(3, day);
        s.leaves("a mean of all", t.since(3), 5);
        // In a row: house 0 heard on 5, house 7 on 6: of 3 that is 2 and 2, of 4 it is 1 and 3.
        RumourRent u = BoundsOfMap.row(7);
        u.heard(0, 5);
        u.heard(7, 6);
        s.takes("as many as it is far to each", u.since(3), 2);
        s.takes("the greatest of two being least", u.since(4), 2);
        s.takes("the end: 5 and -1", u.since(0), 2);
        s.takes("the other end: -2 and 6", u.since(7), 2);
    }

    private static void sinceBelowNothing() {
        Sentence s = Sentence.of(41, "(it can be below 0)");
        RumourRent t = BoundsOfMap.row(7);
        t.heard(7, 0);
        s.takes("0", t.since(7), 0);
        s.takes("-1", t.since(6), -1);
        s.takes("-7, the least that can be", t.since(0), -7);
        // -7 and -6 for house 0: -7 is as near as -6, and the lower one; so are -2 and -1 for house 5.
        t.heard(7, 1);
        s.takes("the lower one of -7 and -6", t.since(0), -7);
        s.takes("the lower one of -2 and -1", t.since(5), -2);
        s.takes("the lower one of -1 and 0", t.since(6), -1);
        s.leaves("a DAY below 0 on which it was heard", t.heard(7, -1), -2);
    }

    private static void sinceOfOthers() {
        Sentence s = Sentence.of(41, "SINCE WHEN. -100 for others, or if nothing was HEARD, or it can't come to one who HEARD.");
        RumourRent t = BoundsOfMap.row(6);
        for (int h = 0; h < 8; h++) s.leaves("nothing heard, house " + h, t.since(h), -100);
        t.heard(0, 99);
        s.takes("house 0", t.since(0), 99);
        s.takes("house 6", t.since(6), 93);
        s.leaves("house 7, that can't come to it", t.since(7), -100);
        for (int w : new int[] {-1, 8, LOW, HIGH}) s.leaves("house " + w, t.since(w), -100);
        t.heard(-1, 0);
        s.leaves("nothing any more", t.since(0), -100);
    }

    // House 3 alone, on days 0 and 2 e, is out by e; on days 0 and 2 e + 1 it is out by e + 1.
    private static void beganByError() {
        Sentence s = Sentence.of(40, "WHO BEGAN: such HOUSES (bits) by which none is out by more than err then (nothing HEARD: all).");
        for (int err = 0; err <= 9; err++) {
            RumourRent t = new RumourRent();
            s.takes("nothing heard", t.began(err), 255);
            t.heard(3, 0);
            t.heard(3, 2 * err);
            s.takes("out by " + err, t.began(err), 1 << 3);
            t.heard(3, 2 * err + 1);
            s.leaves("out by one more than " + err, t.began(err), 0);
        }
        RumourRent u = BoundsOfMap.row(7);
        u.heard(2, 5);
        u.heard(6, 5);
        s.takes("the middle by 0", u.began(0), 1 << 4);
        s.takes("three by 1", u.began(1), 7 << 3);
        s.takes("all by 2", u.began(2), 255);
        // Where they aren't joined, nothing heard is of all, and what one heard of those who can come to it.
        RumourRent v = Check.withRoads(0, 7);
        v.heard(7, 50);
        s.leaves("those who can't come to it", v.began(9), 129);
    }

    private static void beganAsked() {
        Sentence s = Sentence.of(40, "WHO BEGAN: HOUSES (bits). NONE for others (0 .. 9).");
        RumourRent t = new RumourRent();
        s.takes("0, nothing heard", t.began(0), 255);
        s.takes("9, nothing heard", t.began(9), 255);
        for (int w : WRONG_ERRORS) s.leaves(w + ", nothing heard", t.began(w), -1);
        t.heard(0, 5);
        s.takes("0", t.began(0), 1);
        s.takes("9", t.began(9), 1);
        for (int w : WRONG_ERRORS) s.leaves("err " + w, t.began(w), -1);
    }

    private static void askBest() {
        Sentence s = Sentence.of(42, "WHOM TO ASK: the HOUSE whose hearing (on the DAY SINCE WHEN and as many as FAR, of each that could have begun it by err; never, where that one can't come to it) parts these best: the most of them that have it alike are fewest; of like ones the lowest;");
        // Heard in house 0 alone: 0 and 1 could have begun it, and 0 hears of it alike, on that day.
        RumourRent t = Check.withRoads(0, 1);
        t.heard(0, 5);
        s.takes("the one that has it unlike", t.ask(0), 1);
        t.heard(-1, 0);
        t.heard(1, 5);
        s.takes("the lower one that has it unlike", t.ask(0), 0);
        // Of 4 and 5 those apart hear never, alike by both.
        RumourRent u = Check.withRoads(4, 5);
        u.heard(4, 5);
        s.leaves("those who never hear of it", u.ask(0), 5);
        // In a row 4 and 5 have four alike at most, others more.
        RumourRent v = BoundsOfMap.row(7);
        v.heard(3, 5);
        s.takes("the lowest of like ones", v.ask(0), 4);
        // By 0 it is 4 alone, by 1 it is 3, 4, 5 since day 3: 0 would hear on 6, 7, 8.
        RumourRent w = BoundsOfMap.row(7);
        w.heard(2, 5);
        w.heard(6, 5);
        s.leaves("one by 0", w.ask(0), -1);
        s.takes("the lowest who has it unlike of all three by 1", w.ask(1), 0);
    }

    private static void askNobody() {
        Sentence s = Sentence.of(42, "none (none could have begun it, or one, or nothing HEARD).");
        Sentence others = Sentence.of(42, "WHOM TO ASK: the HOUSE. NONE: none, and for others.");
        RumourRent t = Check.withRoads(0, 1);
        s.leaves("nothing heard", t.ask(0), -1);
        s.leaves("nothing heard, by 9", t.ask(9), -1);
        t.heard(5, 0);
        s.leaves("one", t.ask(9), -1);
        t.heard(5, 20);
        s.leaves("none by 9", t.ask(9), -1);
        t.heard(-1, 0);
        t.heard(0, 0);
        s.takes("two by 0", t.ask(0), 1);
        others.takes("two by 9", t.ask(9), 1);
        for (int w : WRONG_ERRORS) others.leaves("err " + w, t.ask(w), -1);
        t.heard(1, 0);
        t.heard(1, 1);
        others.takes("two by 1", t.ask(1), 0);
        others.leaves("none by 0", t.ask(0), -1);
        t.heard(2, 0);
        others.leaves("none who can come to all", t.ask(9), -1);
    }

    private static void guestsAtMost() {
        Sentence s = Sentence.of(43, "GUESTS (7 at most; told: sizes 1 .. 4)");
        RumourRent t = new RumourRent();
        for (int i = 1; i <= 7; i++) s.takes("the " + i + "th", t.pack(2), i);
        s.leaves("an eighth", t.pack(2), -2);
        s.takes("seven", t.about(6), 7);
        s.takes("a house each", t.packed(-1), 7);
        s.takes("the house of the seventh", t.packed(6), 6);
        s.leaves("the house of an eighth", t.packed(7), -2);
        s.takes("none any more", t.pack(-1), 0);
        s.takes("a first again", t.pack(2), 1);
    }

    private static void guestsAsTold() {
        Sentence s = Sentence.of(43, "A GUEST: how many there are (size NONE: none any more). -2 for others (1 .. 4), or if there are 7.");
        RumourRent t = new RumourRent();
        s.takes("none any more of none", t.pack(-1), 0);
        for (int w : new int[] {0, 5, -2, LOW, HIGH}) s.leaves("size " + w, t.pack(w), -2);
        s.takes("size 1", t.pack(1), 1);
        s.takes("size 4", t.pack(4), 2);
        s.takes("two", t.about(6), 2);
        for (int i = 0; i < 5; i++) t.pack(1);
        s.leaves("a wrong one where there are seven", t.pack(5), -2);
        s.takes("none any more of seven", t.pack(-1), 0);
        s.takes("none", t.about(6), 0);
    }

    private static RumourRent packedTown(int[] rooms, int... sizes) {
        RumourRent t = new RumourRent();
        for (int h = 0; h < 8; h++) t.rooms(h, rooms[h]);
        for (int size : sizes) t.pack(size);
        return t;
    }

    private static void packedByRooms() {
        Sentence s = Sentence.of(44, "PACKED into HOUSES, each in one, sizes together no more than ROOMS there (RUMOURS aside): in how few HOUSES;");
        int[] one = {0, 0, 0, 0, 0, 0, 0, 4};
        s.takes("4 in 4 rooms", packedTown(one, 4).packed(-1), 1);
        s.takes("1 and 3 in 4 rooms", packedTown(one, 1, 3).packed(-1), 1);
        s.takes("four of 1 in 4 rooms", packedTown(one, 1, 1, 1, 1).packed(-1), 1);
        s.leaves("2 and 3 in 4 rooms", packedTown(one, 2, 3).packed(-1), -2);
        s.leaves("five of 1 in 4 rooms", packedTown(one, 1, 1, 1, 1, 1).packed(-1), -2);
        int[] three = {3, 3, 3, 3, 3, 3, 3, 3};
        s.takes("3 in 3 rooms", packedTown(three, 3).packed(-1), 1);
        s.leaves("4 in 3 rooms, though there are 24", packedTown(three, 4).packed(-1), -2);
        s.takes("2 and 2 in two houses, not parted", packedTown(three, 2, 2).packed(-1), 2);
        s.takes("seven of 3", packedTown(three, 3, 3, 3, 3, 3, 3, 3).packed(-1), 7);
        int[] six = {3, 3, 3, 3, 3, 3, 0, 2};
        s.leaves("seven of 3 in six houses", packedTown(six, 3, 3, 3, 3, 3, 3, 3).packed(-1), -2);
        RumourRent t = packedTown(one, 4);
        Check.rumours(t, 4);
        for (int i = 0; i < 4; i++) t.tell(7, i);
        s.takes("4 where four rumours are kept", t.packed(0), 7);
    }

    private static void lodge(Sentence s, RumourRent t, int... due) {
        s.takes("how many houses", t.packed(-1), due[0]);
        for (int i = 1; i < due.length; i++) s.takes("the house of guest " + (i - 1), t.packed(i - 1), due[i]);
        s.leaves("one guest more", t.packed(due.length - 1), -2);
    }

    private static void packedLowest() {
        Sentence s = Sentence.of(44, "of such ways the lowest HOUSE for the first GUEST, then for the next, ..");
        lodge(s, packedTown(new int[] {2, 2, 2, 2, 2, 2, 2, 2}, 1, 1, 1, 2), 3, 0, 0, 1, 2);
        // In fewest houses ahead of the lowest: one house of 4, though house 0 has room for one.
        lodge(s, packedTown(new int[] {1, 1, 1, 4, 1, 1, 1, 4}, 1, 1, 1, 1), 1, 3, 3, 3, 3);
        lodge(s, packedTown(new int[] {1, 1, 1, 4, 1, 1, 1, 4}, 1, 1, 1, 1, 1), 2, 0, 3, 3, 3, 3);
        // The first guest ahead of the second: 0 for the first, and then the second can't be there too.
        lodge(s, packedTown(new int[] {2, 0, 0, 0, 0, 0, 3, 3}, 2, 2, 1), 2, 0, 6, 6);
        lodge(s, packedTown(new int[] {3, 2, 0, 0, 0, 0, 0, 0}, 1, 2, 2), 2, 0, 0, 1);
        lodge(s, packedTown(new int[] {3, 2, 0, 0, 0, 0, 0, 0}, 1, 1, 3), 2, 1, 1, 0);
    }

    private static void packedNoGuests() {
        Sentence s = Sentence.of(44, "(no GUESTS: 0, whatever ROOMS there are; no way)");
        s.takes("no guests", new RumourRent().packed(-1), 0);
        s.takes("no guests and no rooms", packedTown(new int[8]).packed(-1), 0);
        s.leaves("one guest and no rooms", packedTown(new int[8], 1).packed(-1), -2);
        s.leaves("its house", packedTown(new int[8], 1).packed(0), -2);
        s.leaves("the house of one where there is none", new RumourRent().packed(0), -2);
    }

    private static void packedAsked() {
        Sentence s = Sentence.of(44, "PACKED: in how many HOUSES (i NONE), the HOUSE of the i-th GUEST. -2: no way, there is none such, and for others.");
        RumourRent t = new RumourRent();
        t.pack(1);
        t.pack(2);
        s.takes("how many", t.packed(-1), 2);
        s.takes("the first", t.packed(0), 0);
        s.takes("the last", t.packed(1), 1);
        for (int w : new int[] {2, 7, -2, LOW, HIGH}) s.leaves("guest " + w, t.packed(w), -2);
        t.pack(3);
        s.leaves("how many, one having no way", t.packed(-1), -2);
        s.leaves("the first, the last having no way", t.packed(0), -2);
    }

    private static void saidAtMost() {
        Sentence s = Sentence.of(45, "WHOSE LAW (told: SAID, 8 at most: a HOUSE, a RUMOUR, rent 0 .. 99)");
        RumourRent t = new RumourRent();
        t.rumour(0, 0);
        Check.read(t, "rent 5;");
        for (int i = 1; i <= 7; i++) s.takes("the " + i + "th", t.said(0, 0, 5), i);
        s.takes("seven alike", t.whose(), 1);
        s.takes("the eighth", t.said(0, 0, 6), 8);
        s.takes("the eighth counting", t.whose(), 0);
        s.leaves("a ninth", t.said(0, 0, 5), -2);
        s.takes("eight", t.about(7), 8);
        s.takes("none any more", t.said(-1, 0, 0), 0);
        s.takes("a first again", t.said(0, 0, 5), 1);
        s.takes("it alone", t.whose(), 1);
    }

    private static void saidAsTold() {
        Sentence s = Sentence.of(45, "SAID: how many there are (house NONE: none any more). -2 for others (0 .. 99), or if there are 8.");
        RumourRent t = new RumourRent();
        s.leaves("a rumour ahead of any", t.said(0, 0, 0), -2);
        s.takes("none any more of none", t.said(-1, 0, 0), 0);
        Check.rumours(t, 3);
        s.leaves("rumour 3 of three", t.said(0, 3, 0), -2);
        Check.rumours(t, 1);
        s.takes("house 7, rumour 3, rent 99", t.said(7, 3, 99), 1);
        s.takes("house 0, rumour 0, rent 0", t.said(0, 0, 0), 2);
        for (int w : new int[] {-1, 100, LOW, HIGH}) s.leaves("rent " + w, t.said(0, 0, w), -2);
        for (int w : new int[] {-1, 4, LOW, HIGH}) s.leaves("rumour " + w, t.said(0, w, 0), -2);
        for (int w : new int[] {-2, 8, LOW, HIGH}) s.leaves("house " + w, t.said(w, 0, 0), -2);
        s.takes("two", t.about(7), 2);
        s.takes("none any more of two", t.said(-1, 0, 0), 0);
        s.takes("none", t.about(7), 0);
    }

    private static void whose() {
        Sentence s = Sentence.of(46, "TEXTS (bits) by whose rent all are so (as now).");
        Sentence all = Sentence.of(46, "WHOSE LAW (bits).");
        RumourRent t = new RumourRent();
        all.takes("no text, nothing said", t.whose(), 0);
        t.rumour(1, 0);
        t.said(0, 0, 0);
        all.takes("no text, rent said", t.whose(), 0);
        t.said(-1, 0, 0);
        for (String law : new String[] {"100", "99", "98", "house+92"}) Check.read(t, "rent " + law + ";");
        all.takes("four texts, nothing said", t.whose(), 15);
        t.said(7, 0, 99);
        s.takes("99, as what is more is 99", t.whose(), 1 | 2 | 8);
        t.said(6, 0, 99);
        s.leaves("one of two that isn't so", t.whose(), 1 | 2);
        t.said(6, 0, 98);
        s.leaves("any that could say both", t.whose(), 0);
        RumourRent u = new RumourRent();
        Check.rumours(u, 4);
        Check.read(u, "rent 10*house+number;");
        Check.read(u, "rent 10*house;");
        u.said(7, 3, 73);
        s.takes("of house 7 and rumour 3", u.whose(), 1);
        u.said(-1, 0, 0);
        u.said(7, 0, 70);
        s.takes("of house 7 and rumour 0", u.whose(), 3);
    }

    private static void whoseAsNow() {
        Sentence s = Sentence.of(46, "by whose rent all are so (as now)");
        RumourRent t = new RumourRent();
        t.rumour(1, 0);
        Check.read(t, "rent 2*all;");
        Check.read(t, "");
        Check.read(t, "believes 50;");
        Check.read(t, "rent -1;");
        t.by(0);
        t.said(0, 0, 0);
        s.takes("kept nowhere: 0 by all of them", t.whose(), 15);
        t.tell(5, 0);
        s.leaves("those by whom it is 2 now", t.whose(), 8);
        t.undo();
        s.takes("0 again", t.whose(), 15);
        t.by(-1);
        s.takes("whichever rules", t.whose(), 15);
    }
}
