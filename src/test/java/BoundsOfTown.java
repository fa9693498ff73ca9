/** Bounds of what is told of the town, and of what is asked of it: promises 1 to 4, 17, 18, 21, 22, 47 to 52. */
final class BoundsOfTown {
    private static final int LOW = Integer.MIN_VALUE;
    private static final int HIGH = Integer.MAX_VALUE;

    private BoundsOfTown() { }

    static void all() {
        newObject();
        houses();
        roadsAtMost();
        roadsAsTold();
        rumoursAtMost();
        truthAndPurse();
        roomsAsTold();
        roomsAtFirst();
        keptFromBefore();
        keptBits();
        income();
        besideBits();
        ofRumour();
        rentPaid();
        firstX();
        is();
        bookOfThirty();
        bookAsked();
        dearest();
        richest();
        ledger();
        imageAtFirst();
        imageLeavesTape();
        imageStays();
        about();
    }

    private static void newObject() {
        RumourRent t = new RumourRent();
        Sentence s = Sentence.of(1, "Eight houses, no road, no rumour; THE IMAGE is this.");
        s.takes("the eighth house", t.of(7, 0), 2);
        s.leaves("a ninth house", t.of(8, 0), -1);
        s.takes("no road", t.about(0), 0);
        s.takes("no rumour", t.about(1), 0);
        s.leaves("a first rumour", t.ofRumour(0, 0), -1);
        t.road(0, 1);
        t.rumour(0, 5);
        t.day(1);
        s.takes("back to the image of a new object", t.back(), 0);
        s.takes("no road in it", t.about(0), 0);
        s.takes("no rumour in it", t.about(1), 0);
        s.takes("no step in it", t.undo(), -1);
    }

    private static void houses() {
        RumourRent t = new RumourRent();
        Sentence s = Sentence.of(17, "HOUSES 0 .. 7: ROOMS 0 .. 4");
        s.takes("house 0", t.of(0, 0), 2);
        s.takes("house 7", t.of(7, 0), 2);
        for (int w : new int[] {-1, 8, LOW, HIGH}) s.leaves("house " + w, t.of(w, 0), -1);
        Sentence what = Sentence.of(17, "Of a HOUSE: 0 ROOMS, 1 RUMOURS it keeps (bits), 2 INCOME, 3 HOUSES beside (bits). NONE for others.");
        what.takes("the first that can be asked", t.of(3, 0), 2);
        what.takes("the last that can be asked", t.of(3, 3), 0);
        for (int w : new int[] {-1, 4, LOW, HIGH}) what.leaves("what " + w, t.of(3, w), -1);
    }

    private static void roadsAtMost() {
        RumourRent t = new RumourRent();
        Sentence s = Sentence.of(2, "ROADS (12 at most; told one by one): each joins two HOUSES, that are beside one another then.");
        int number = 0;
        for (int a = 0; a < 2; a++) {
            for (int b = a + 1; b < 8 && number < 12; b++) {
                s.takes("road " + number, t.road(a, b), number);
                number++;
            }
        }
        s.takes("beside house 7", t.of(7, 3), 1);
        s.takes("beside house 0", t.of(0, 3), 254);
        s.leaves("the 13th", t.road(1, 7), -1);
        s.leaves("house 1 and 7 being beside one another", t.of(1, 3) >> 7, 0);
        Sentence full = Sentence.of(2, "or if there are 12.");
        full.takes("twelve", t.is(2), 12);
        full.leaves("one that is there already", t.road(0, 1), -1);
        t.back();
        full.takes("a first again, there being none", t.road(1, 7), 0);
    }

    private static void roadsAsTold() {
        RumourRent t = new RumourRent();
        Sentence s = Sentence.of(2, "A ROAD: its number. NONE for others (unlike HOUSES; of each two once)");
        s.takes("the lowest and the highest house", t.road(0, 7), 0);
        s.leaves("the same two", t.road(0, 7), -1);
        s.leaves("the same two from the other end", t.road(7, 0), -1);
        s.leaves("house 0 with itself", t.road(0, 0), -1);
        s.leaves("house 7 with itself", t.road(7, 7), -1);
        for (int w : new int[] {-1, 8, LOW, HIGH}) {
            s.leaves("from house " + w, t.road(w, 3), -1);
            s.leaves("to house " + w, t.road(3, w), -1);
            s.leaves("both being " + w, t.road(w, w), -1);
        }
        s.leaves("any but the first", t.about(0), 1);
        s.takes("the next", t.road(7, 6), 1);
        s.takes("two that are joined over others", t.road(6, 0), 2);
    }

    private static void rumoursAtMost() {
        RumourRent t = new RumourRent();
        Sentence s = Sentence.of(3, "RUMOURS 0 .. 3 (told one by one): truth 0, 1, a PURSE 0 .. 9999.");
        for (int i = 0; i < 4; i++) s.takes("rumour " + i, t.rumour(i & 1, i), i);
        s.leaves("a fifth", t.rumour(0, 0), -1);
        s.takes("the purse of the last", t.ofRumour(3, 1), 3);
        s.leaves("rumour 4", t.ofRumour(4, 0), -1);
        for (int i = 0; i < 10; i++) t.gift(3, 999);
        t.gift(3, 6);
        s.takes("a purse of 9999", t.ofRumour(3, 1), 9999);
        s.leaves("a purse of 10000", t.gift(3, 1), false);
        s.takes("the purse as it was", t.ofRumour(3, 1), 9999);
        s.takes("a purse of 0", t.ofRumour(0, 1), 0);
        Sentence four = Sentence.of(3, "or if there are 4.");
        four.takes("four", t.about(1), 4);
        four.leaves("one like the first", t.rumour(0, 0), -1);
    }

    private static void truthAndPurse() {
        RumourRent t = new RumourRent();
        Sentence s = Sentence.of(3, "A RUMOUR: its number. NONE for others (truth 0, 1; 0 .. 999)");
        for (int w : new int[] {-1, 2, LOW, HIGH}) s.leaves("truth " + w, t.rumour(w, 5), -1);
        for (int w : new int[] {-1, 1000, 9999, LOW, HIGH}) s.leaves("a purse of " + w, t.rumour(1, w), -1);
        s.leaves("any of these", t.about(1), 0);
        s.takes("truth 0 and a purse of 0", t.rumour(0, 0), 0);
        s.takes("truth 1 and a purse of 999", t.rumour(1, 999), 1);
        s.takes("that purse", t.ofRumour(1, 1), 999);
        s.takes("that truth", t.ofRumour(1, 0), 1);
    }

    private static void roomsAsTold() {
        RumourRent t = new RumourRent();
        Sentence s = Sentence.of(4, "ROOMS told: true. False for others (0 .. 4).");
        s.takes("0 in house 0", t.rooms(0, 0), true);
        s.takes("these", t.of(0, 0), 0);
        s.takes("4 in house 7", t.rooms(7, 4), true);
        s.takes("these", t.of(7, 0), 4);
        s.takes("as many again", t.rooms(7, 4), true);
        for (int w : new int[] {-1, 5, LOW, HIGH}) s.leaves(w + " rooms", t.rooms(7, w), false);
        for (int w : new int[] {-1, 8, LOW, HIGH}) s.leaves("rooms in house " + w, t.rooms(w, 3), false);
        s.takes("those from before", t.of(7, 0), 4);
    }

    private static void roomsAtFirst() {
        RumourRent t = new RumourRent();
        Check.rumours(t, 4);
        Sentence s = Sentence.of(4, "(told; at first 2; one may keep more from before)");
        s.takes("two rooms", t.of(5, 0), 2);
        s.takes("a first rumour", t.tell(5, 0), true);
        s.takes("a second rumour", t.tell(5, 1), true);
        s.leaves("a third rumour", t.tell(5, 2), false);
        t.rooms(5, 4);
        s.takes("a third in four rooms", t.tell(5, 2), true);
        s.takes("a fourth in four rooms", t.tell(5, 3), true);
        t.rooms(6, 0);
        s.leaves("one in no room", t.tell(6, 0), false);
        t.rooms(6, 1);
        s.takes("one in one room", t.tell(6, 0), true);
        s.leaves("two in one room", t.tell(6, 1), false);
    }

    private static void keptFromBefore() {
        RumourRent t = new RumourRent();
        Check.rumours(t, 4);
        t.tell(2, 0);
        t.tell(2, 1);
        t.rooms(2, 1);
        Sentence s = Sentence.of(4, "one may keep more from before");
        s.takes("two kept in one room", t.of(2, 1), 3);
        s.leaves("one more there", t.tell(2, 2), false);
        t.hush(2, 0);
        s.leaves("one beside one in one room", t.tell(2, 0), false);
        t.rooms(2, 0);
        s.takes("one kept in no room", t.of(2, 1), 2);
        t.day(1);
        s.takes("rent of one kept in no room", t.rent(2, 1), 1);
        t.hush(2, 1);
        s.leaves("it again, in no room", t.tell(2, 1), false);
    }

    private static void keptBits() {
        RumourRent t = new RumourRent();
        Check.rumours(t, 4);
        t.rooms(7, 4);
        Sentence s = Sentence.of(17, "RUMOURS they keep (bits; at first none)");
        s.takes("none at first", t.of(7, 1), 0);
        t.tell(7, 3);
        s.takes("the fourth alone", t.of(7, 1), 8);
        for (int i = 0; i < 3; i++) t.tell(7, i);
        s.takes("all four", t.of(7, 1), 15);
        s.leaves("any of it in the next house", t.of(6, 1), 0);
    }

    private static void income() {
        RumourRent t = new RumourRent();
        Check.read(t, "rent 99;");
        Check.read(t, "rent 1;");
        t.by(0);
        t.rumour(0, 999);
        Sentence s = Sentence.of(17, "INCOME 0 .. 9999 (at first 0; no more)");
        s.takes("0 at first", t.of(0, 2), 0);
        t.tell(0, 0);
        for (int i = 0; i < 9; i++) t.gift(0, 999);
        t.day(60);
        t.day(40);
        s.takes("a hundred times 99", t.of(0, 2), 9900);
        t.gift(0, 999);
        t.image();
        t.day(1);
        s.takes("9999", t.of(0, 2), 9999);
        t.by(1);
        s.takes("rent of 1 being paid beyond", t.day(1), 1);
        s.leaves("10000", t.of(0, 2), 9999);
        t.back();
        t.by(1);
        t.day(1);
        t.by(0);
        Sentence paid = Sentence.of(13, "INCOME of the HOUSE more (9999 at most; it is paid all the same)");
        paid.takes("9901", t.of(0, 2), 9901);
        paid.takes("all rent being paid", t.day(1), 99);
        paid.leaves("9901 and 99", t.of(0, 2), 9999);
        paid.takes("it being told as paid", t.is(3), 99);
        paid.takes("it being off the purse", t.ofRumour(0, 1), 90 + 999 - 1 - 99);
        paid.takes("rent with an income of 9999", t.day(1), 99);
        paid.takes("it being off the purse again", t.ofRumour(0, 1), 90 + 999 - 1 - 198);
        s.leaves("more, ever", t.of(0, 2), 9999);
    }

    private static void besideBits() {
        RumourRent t = new RumourRent();
        Sentence s = Sentence.of(17, "3 HOUSES beside (bits). NONE for others.");
        s.takes("none", t.of(0, 3), 0);
        for (int h = 1; h < 8; h++) t.road(0, h);
        s.takes("all others", t.of(0, 3), 254);
        s.takes("house 0 alone", t.of(7, 3), 1);
        s.leaves("house 8", t.of(8, 3), -1);
    }

    private static void ofRumour() {
        RumourRent t = new RumourRent();
        Sentence s = Sentence.of(18, "Of a RUMOUR: 0 truth, 1 PURSE, 2 HOUSES that keep it (bits). NONE for others.");
        s.leaves("rumour 0 ahead of any", t.ofRumour(0, 0), -1);
        Check.rumours(t, 3);
        s.leaves("the fourth ahead of it", t.ofRumour(3, 1), -1);
        t.rumour(1, 999);
        s.takes("the fourth", t.ofRumour(3, 1), 999);
        s.takes("its truth", t.ofRumour(3, 0), 1);
        s.takes("kept nowhere", t.ofRumour(3, 2), 0);
        for (int h = 0; h < 8; h++) t.tell(h, 3);
        s.takes("kept everywhere", t.ofRumour(3, 2), 255);
        for (int w : new int[] {-1, 3, LOW, HIGH}) s.leaves("what " + w, t.ofRumour(3, w), -1);
        for (int w : new int[] {-1, 4, LOW, HIGH}) s.leaves("rumour " + w, t.ofRumour(w, 0), -1);
    }

    private static void rentPaid() {
        RumourRent t = new RumourRent();
        Sentence s = Sentence.of(21, "Rent paid on the latest DAY (at first 0).");
        s.takes("0 at first", t.is(3), 0);
        t.rumour(1, 5);
        t.tell(0, 0);
        s.takes("0 ahead of a day", t.is(3), 0);
        t.day(2);
        s.takes("2 of the second day, not 4 of both", t.is(3), 2);
        t.gift(0, 9);
        t.hush(0, 0);
        s.takes("2 till a day passes", t.is(3), 2);
        t.day(1);
        s.takes("0 of a day without rent", t.is(3), 0);
        t.undo();
        s.takes("2 when that is taken back", t.is(3), 2);
    }

    private static void firstX() {
        Sentence s = Sentence.of(21, "X: at first 379.");
        s.takes("379", new RumourRent().is(1), 379);
        RumourRent t = Check.onDay(60);
        s.takes("379 behind days without a rumour", t.is(1), 379);
        t.rumour(0, 0);
        s.takes("379 with a rumour, ahead of a day", t.is(1), 379);
        t.day(1);
        s.leaves("379 behind two draws", t.is(1), 23747);
    }

    private static void is() {
        RumourRent t = Check.onDay(61);
        t.road(0, 1);
        Sentence s = Sentence.of(21, "0 DAY, 1 X, 2 how many ROADS, 3 rent paid on the latest DAY. -2 for others.");
        s.takes("the first that can be asked", t.is(0), 61);
        s.takes("roads", t.is(2), 1);
        s.takes("the last that can be asked", t.is(3), 0);
        for (int w : new int[] {-1, 4, LOW, HIGH}) s.leaves("what " + w, t.is(w), -2);
    }

    // Entries of 31: the k-th is of house k mod 8 and of rumour k / 8, on day k.
    private static RumourRent written(int entries) {
        RumourRent t = new RumourRent();
        for (int h = 0; h < 8; h++) t.rooms(h, 4);
        Check.rumours(t, 4);
        for (int k = 0; k < entries; k++) {
            t.tell(k % 8, k / 8);
            t.day(1);
        }
        return t;
    }

    private static void bookOfThirty() {
        Sentence s = Sentence.of(22, "BOOK (the latest 30): DAY, HOUSE, RUMOUR.");
        RumourRent t = written(30);
        s.takes("thirty", t.book(-1, 0), 30);
        s.takes("the first of thirty: its day", t.book(0, 0), 0);
        s.takes("its house", t.book(0, 1), 0);
        s.takes("its rumour", t.book(0, 2), 0);
        s.takes("the last of thirty: its day", t.book(29, 0), 29);
        s.takes("its house", t.book(29, 1), 5);
        s.takes("its rumour", t.book(29, 2), 3);
        t.tell(6, 3);
        s.takes("thirty of 31", t.book(-1, 0), 30);
        s.leaves("the first of 31", t.book(0, 0), 1);
        for (int i = 0; i < 30; i++) {
            s.takes("the day of entry " + i, t.book(i, 0), i + 1);
            s.takes("the house of entry " + i, t.book(i, 1), (i + 1) % 8);
            s.takes("the rumour of entry " + i, t.book(i, 2), (i + 1) / 8);
        }
        s.leaves("a 31st place", t.book(30, 0), -2);
        t.tell(7, 3);
        s.takes("thirty of 32", t.book(-1, 0), 30);
        s.leaves("the second of 32", t.book(0, 0), 2);
        s.takes("the last of 32", t.book(29, 1), 7);
        t.undo();
        t.undo();
        s.takes("the first of thirty again", t.book(0, 0), 0);
        s.takes("the last of thirty again", t.book(29, 0), 29);
    }

    private static void bookAsked() {
        Sentence s = Sentence.of(22, "BOOK: how many (i NONE); the i-th, from the eldest on: 0 DAY, 1 HOUSE, 2 RUMOUR. -2 if there is none such, and for others.");
        RumourRent empty = new RumourRent();
        s.takes("none", empty.book(-1, 0), 0);
        s.leaves("the first of none", empty.book(0, 0), -2);
        RumourRent t = written(2);
        s.takes("two", t.book(-1, 0), 2);
        s.takes("the eldest", t.book(0, 1), 0);
        s.takes("the latest", t.book(1, 1), 1);
        for (int w : new int[] {2, -2, 30, LOW, HIGH}) s.leaves("entry " + w, t.book(w, 0), -2);
        for (int w : new int[] {-1, 3, LOW, HIGH}) s.leaves("what " + w, t.book(1, w), -2);
        // On the greatest day that can be, of the highest house and rumour: no part runs into another.
        RumourRent late = Check.onDay(9999);
        Check.rumours(late, 4);
        late.tell(7, 3);
        s.takes("day 9999", late.book(0, 0), 9999);
        s.takes("house 7", late.book(0, 1), 7);
        s.takes("rumour 3", late.book(0, 2), 3);
    }

    private static void dearest() {
        RumourRent t = new RumourRent();
        Sentence s = Sentence.of(47, "DEAREST: the RUMOUR whose rent of all HOUSES that keep it (now) is most together (above 0); of like ones the lowest; none.");
        Sentence none = Sentence.of(47, "DEAREST. NONE: none.");
        none.leaves("no rumour", t.dearest(), -1);
        Check.rumours(t, 4);
        none.leaves("rumours that nobody keeps", t.dearest(), -1);
        t.tell(1, 3);
        none.takes("rent of 1", t.dearest(), 3);
        t.tell(2, 2);
        s.takes("the lowest of like ones", t.dearest(), 2);
        t.tell(3, 3);
        s.takes("the one of more", t.dearest(), 3);
        t.tell(3, 2);
        s.takes("the lowest of like ones again", t.dearest(), 2);
        Check.read(t, "rent number-3+1/(4-house);");
        t.by(0);
        // Of rumour 3, house 3 alone has rent: 1; of rumour 2 that is 0.
        s.takes("rent of 1 together", t.dearest(), 3);
        t.hush(3, 3);
        s.leaves("rent of 0 together", t.dearest(), -1);
        // Rumour 0 alone, kept in the first house and in the last.
        RumourRent u = new RumourRent();
        Check.rumours(u, 2);
        u.tell(0, 0);
        s.takes("the first house", u.dearest(), 0);
        u.hush(0, 0);
        u.tell(7, 0);
        s.takes("the last house", u.dearest(), 0);
        u.tell(0, 1);
        u.tell(1, 1);
        u.tell(0, 0);
        s.takes("the first and the last together, of like ones", u.dearest(), 0);
        Check.read(u, "rent number+1/(1+house);");
        u.by(0);
        s.takes("2 and 1 of rumour 1, 1 and 0 of rumour 0", u.dearest(), 1);
    }

    private static void richest() {
        RumourRent t = new RumourRent();
        Sentence s = Sentence.of(48, "RICHEST: the HOUSE of most INCOME (above 0); of like ones the lowest; none.");
        Sentence none = Sentence.of(48, "RICHEST. NONE: none.");
        none.leaves("incomes of 0", t.richest(), -1);
        s.leaves("none: no income above 0", t.richest(), -1);
        t.rumour(0, 1);
        t.tell(7, 0);
        none.leaves("incomes of 0 ahead of a day", t.richest(), -1);
        t.day(1);
        none.takes("an income of 1", t.richest(), 7);
        t.hush(7, 0);
        t.gift(0, 1);
        t.tell(0, 0);
        t.day(1);
        s.takes("the lowest of like ones", t.richest(), 0);
        t.gift(0, 1);
        t.hush(0, 0);
        t.tell(7, 0);
        t.day(1);
        s.takes("the one of most", t.richest(), 7);
        for (int i = 0; i < 3; i++) t.undo();
        s.takes("the lowest of like ones again", t.richest(), 0);
    }

    private static void ledger() {
        Sentence s = Sentence.of(49, "BY THE BOOK: how often a RUMOUR is written down (NONE: all).");
        Sentence others = Sentence.of(49, "BY THE BOOK. -2 for others.");
        RumourRent empty = new RumourRent();
        s.takes("all of none", empty.ledger(-1), 0);
        others.leaves("rumour 0 ahead of any", empty.ledger(0), -2);
        RumourRent t = written(30);
        s.takes("all of thirty", t.ledger(-1), 30);
        s.takes("eight of rumour 0", t.ledger(0), 8);
        s.takes("six of rumour 3", t.ledger(3), 6);
        t.tell(6, 3);
        s.takes("all of 31", t.ledger(-1), 30);
        s.leaves("the entry of rumour 0 that is gone", t.ledger(0), 7);
        s.takes("seven of rumour 3", t.ledger(3), 7);
        t.hush(6, 3);
        s.takes("seven of it, one hushed", t.ledger(3), 7);
        others.takes("the highest", t.ledger(3), 7);
        for (int w : new int[] {-2, 4, LOW, HIGH}) others.leaves("rumour " + w, t.ledger(w), -2);
    }

    private static void imageAtFirst() {
        Sentence s = Sentence.of(51, "AN IMAGE: all as it is, but the tape and the latest FAULT. BACK: all is so again.");
        RumourRent t = new RumourRent();
        for (int i = 0; i < 3; i++) Check.read(t, "rent 1;");
        t.by(2);
        s.takes("back of a new object", t.back(), 0);
        s.takes("no text", t.about(2), 0);
        s.takes("no law", t.about(3), -1);
        s.leaves("a text told since", t.by(0), false);
        s.leaves("its being played", t.played(0), -2);
        for (int i = 0; i < 4; i++) s.takes("text " + i + " once more", Check.read(t, "rent 2;"), i);
        s.leaves("a fifth", Check.read(t, "rent 2;"), -1);
    }

    private static void imageLeavesTape() {
        Sentence s = Sentence.of(50, "but the tape and the latest FAULT");
        RumourRent t = new RumourRent();
        Check.put(t, "day 1;");
        t.image();
        t.end(3);
        s.takes("the day of the image", t.back(), 0);
        s.leaves("the bytes of the tape then", t.about(8), 3);
        s.leaves("the tape then: this has a fault", t.text(), -1);
        t.image();
        Check.read(t, "day 1;");
        t.back();
        s.leaves("the fault then", t.fault(0), 0);
        s.leaves("its place then", t.fault(1), -1);
    }

    private static void imageStays() {
        Sentence s = Sentence.of(51, "BACK to THE IMAGE (it stays): DAY.");
        Sentence image = Sentence.of(50, "THE IMAGE is as all is now: DAY.");
        RumourRent t = Check.onDay(9998);
        image.takes("day 9998", t.image(), 9998);
        t.day(1);
        s.takes("back from 9999", t.back(), 9998);
        s.takes("back once more", t.back(), 9998);
        s.takes("its steps", t.about(4), 30);
        t.day(1);
        image.takes("day 9999", t.image(), 9999);
        t.undo();
        s.takes("the later image", t.back(), 9999);
        s.leaves("the earlier one", t.undo(), 29);
        s.takes("the steps of the later image", t.is(0), 9998);
    }

    private static void about() {
        Sentence s = Sentence.of(52, "0 ROADS, 1 RUMOURS, 2 TEXTS, 3 THE TEXT (NONE), 4 STEPS that can be taken back, 5 HEARD, 6 GUESTS, 7 SAID, 8 bytes of the tape. -2 for others.");
        RumourRent t = new RumourRent();
        int[] least = {0, 0, 0, -1, 0, 0, 0, 0, 0};
        for (int i = 0; i < 9; i++) s.takes("the least of " + i, t.about(i), least[i]);
        for (int b = 1; b < 8; b++) t.road(0, b);
        for (int b = 2; b < 8; b++) t.road(1, b);
        for (int i = 0; i < 5; i++) Check.rumours(t, 1);
        for (int i = 0; i < 5; i++) Check.read(t, "");
        t.by(3);
        t.day(31);
        for (int i = 0; i < 9; i++) t.heard(0, 0);
        for (int i = 0; i < 8; i++) t.pack(1);
        for (int i = 0; i < 9; i++) t.said(0, 0, 0);
        for (int i = 0; i < 16; i++) t.feed(0, 0, 0, 0, 0);
        int[] most = {12, 4, 4, 3, 30, 8, 7, 8, 300};
        for (int i = 0; i < 9; i++) s.takes("the most of " + i, t.about(i), most[i]);
        for (int w : new int[] {-1, 9, LOW, HIGH}) s.leaves("what " + w, t.about(w), -2);
    }
}
