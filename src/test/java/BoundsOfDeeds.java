/** Bounds of what is done in the town: promises 9 to 16 and 23, and the years of part V. */
final class BoundsOfDeeds {
    private static final int LOW = Integer.MIN_VALUE;
    private static final int HIGH = Integer.MAX_VALUE;

    private BoundsOfDeeds() { }

    static void all() {
        by();
        toldIfNotKept();
        toldIfRoom();
        toldIfBelieved();
        tell();
        hush();
        gift();
        rentOrPurse();
        rentByNumber();
        drawnHouse();
        drawnRumour();
        drawWrapsAround();
        noDrawWithoutRumours();
        toldToThoseBeside();
        lastDay();
        dayNumbers();
        dayBeyond();
        playedInOrder();
        playedDays();
        playedEnds();
        stepsAtMost();
        stepsOfDays();
        refusedIsNoStep();
        undoGivesBack();
        rumoursToldSince();
        foretoldDays();
        foretoldAsked();
        yearsNumbers();
        yearsTold();
        yearsHushedAndGiven();
        yearsDays();
        yearsOfNothing();
        yearsOneStep();
    }

    private static void by() {
        Sentence s = Sentence.of(9, "THE TEXT (NONE: none): true. False for others.");
        RumourRent t = new RumourRent();
        s.leaves("text 0 ahead of any", t.by(0), false);
        s.takes("none, ahead of any", t.by(-1), true);
        for (int i = 0; i < 3; i++) Check.read(t, "rent 5;");
        s.leaves("the fourth ahead of it", t.by(3), false);
        Check.read(t, "rent 6;");
        t.rumour(0, 0);
        Sentence rules = Sentence.of(9, "THE TEXT (told; at first none) rules.");
        rules.leaves("a text that isn't told to rule", t.rent(0, 0), 0);
        s.takes("the fourth", t.by(3), true);
        rules.takes("the fourth", t.rent(0, 0), 6);
        for (int w : new int[] {-2, 4, LOW, HIGH}) s.leaves("text " + w, t.by(w), false);
        rules.takes("the fourth still", t.about(3), 3);
        s.takes("the first", t.by(0), true);
        rules.takes("the first", t.rent(0, 0), 5);
        s.takes("none", t.by(-1), true);
        rules.takes("none", t.rent(0, 0), 0);
    }

    private static void toldIfNotKept() {
        Sentence s = Sentence.of(10, "TOLD: a HOUSE that doesn't keep a RUMOUR");
        RumourRent t = new RumourRent();
        Check.rumours(t, 2);
        s.takes("one that it doesn't keep", t.tell(0, 0), true);
        s.leaves("one that it keeps, with a room to spare", t.tell(0, 0), false);
        s.takes("another one", t.tell(0, 1), true);
        t.hush(0, 0);
        s.takes("one that it kept before", t.tell(0, 0), true);
        s.takes("all three being written down", t.book(-1, 0), 3);
    }

    private static void toldIfRoom() {
        Sentence s = Sentence.of(10, "and keeps fewer than it has ROOMS");
        for (int rooms = 0; rooms <= 4; rooms++) {
            RumourRent t = new RumourRent();
            Check.rumours(t, 4);
            t.rooms(6, rooms);
            for (int kept = 0; kept < 4; kept++) {
                if (kept < rooms) {
                    s.takes(kept + " kept, " + rooms + " rooms", t.tell(6, kept), true);
                } else {
                    s.leaves(kept + " kept, " + rooms + " rooms", t.tell(6, kept), false);
                }
            }
        }
    }

    private static void toldIfBelieved() {
        Sentence s = Sentence.of(10, "believes saying more than 0, keeps it: written down.");
        RumourRent t = new RumourRent();
        t.rumour(0, 0);
        Check.read(t, "believes house-3;");
        t.by(0);
        s.takes("believes saying 1", t.tell(4, 0), true);
        s.leaves("believes saying 0", t.tell(3, 0), false);
        s.leaves("believes saying -1", t.tell(2, 0), false);
        s.takes("that house alone keeping it", t.ofRumour(0, 2), 1 << 4);
        s.takes("it being written down", t.book(-1, 0), 1);
        s.takes("its house", t.book(0, 1), 4);
    }

    private static void tell() {
        Sentence s = Sentence.of(10, "TOLD: true. False, if it can't be, and for others.");
        RumourRent t = new RumourRent();
        s.leaves("a rumour ahead of any", t.tell(0, 0), false);
        Check.rumours(t, 3);
        s.leaves("rumour 3 of three", t.tell(0, 3), false);
        Check.rumours(t, 1);
        s.takes("rumour 3 of four to house 7", t.tell(7, 3), true);
        s.takes("rumour 0 to house 0", t.tell(0, 0), true);
        for (int w : new int[] {-1, 8, LOW, HIGH}) s.leaves("house " + w, t.tell(w, 0), false);
        for (int w : new int[] {-1, 4, LOW, HIGH}) s.leaves("rumour " + w, t.tell(1, w), false);
        s.takes("two steps", t.about(4), 2);
    }

    private static void hush() {
        Sentence s = Sentence.of(11, "HUSHED: true. False, if it is not kept there, and for others.");
        Sentence none = Sentence.of(11, "HUSHED: it doesn't keep it any more.");
        RumourRent t = new RumourRent();
        s.leaves("a rumour ahead of any", t.hush(0, 0), false);
        Check.rumours(t, 4);
        s.leaves("one that isn't kept anywhere", t.hush(7, 3), false);
        t.tell(7, 3);
        t.tell(7, 0);
        s.leaves("one that is kept in another house", t.hush(6, 3), false);
        s.leaves("another one of that house", t.hush(7, 2), false);
        for (int w : new int[] {-1, 8, LOW, HIGH}) s.leaves("house " + w, t.hush(w, 0), false);
        for (int w : new int[] {-1, 4, LOW, HIGH}) s.leaves("rumour " + w, t.hush(7, w), false);
        s.takes("one that is kept there", t.hush(7, 3), true);
        none.takes("the other one being kept", t.of(7, 1), 1);
        none.leaves("it being hushed twice", t.hush(7, 3), false);
        none.takes("the book as it was", t.book(-1, 0), 2);
    }

    private static void gift() {
        Sentence s = Sentence.of(12, "GIVEN: true. False for others (1 .. 999), and beyond 9999.");
        Sentence more = Sentence.of(12, "GIVEN: PURSE of a RUMOUR is more.");
        RumourRent t = new RumourRent();
        s.leaves("a rumour ahead of any", t.gift(0, 1), false);
        t.rumour(0, 0);
        for (int w : new int[] {0, -1, 1000, LOW, HIGH}) s.leaves("a gift of " + w, t.gift(0, w), false);
        for (int w : new int[] {-1, 1, 4, LOW, HIGH}) s.leaves("rumour " + w, t.gift(w, 5), false);
        s.takes("a gift of 1", t.gift(0, 1), true);
        more.takes("1", t.ofRumour(0, 1), 1);
        s.takes("a gift of 999", t.gift(0, 999), true);
        more.takes("1000", t.ofRumour(0, 1), 1000);
        for (int i = 0; i < 8; i++) t.gift(0, 999);
        t.gift(0, 8);
        more.takes("9000", t.ofRumour(0, 1), 9000);
        s.takes("999 to 9000", t.gift(0, 999), true);
        s.leaves("1 to 9999", t.gift(0, 1), false);
        more.leaves("10000", t.ofRumour(0, 1), 9999);
        t.undo();
        t.gift(0, 1);
        s.leaves("999 to 9001", t.gift(0, 999), false);
        more.takes("9001 as it was", t.ofRumour(0, 1), 9001);
        s.takes("998 to 9001", t.gift(0, 998), true);
    }

    private static void rentOrPurse() {
        Sentence s = Sentence.of(13, "rent (as it is then), or what its PURSE has, if that is less: PURSE is less by it");
        for (int purse = 0; purse <= 8; purse++) {
            RumourRent t = new RumourRent();
            Check.read(t, "rent 7;");
            t.by(0);
            t.rumour(0, purse);
            t.tell(0, 0);
            int due = Math.min(7, purse);
            if (purse >= 7) {
                s.takes("rent of 7 off a purse of " + purse, t.day(1), 7);
            } else {
                s.leaves("rent of 7 off a purse of " + purse, t.day(1), purse);
            }
            s.takes("the income", t.of(0, 2), due);
            s.takes("the purse", t.ofRumour(0, 1), purse - due);
            s.takes("the rent paid", t.is(3), due);
        }
    }

    private static void rentByNumber() {
        Sentence s = Sentence.of(13, "A DAY: of each RUMOUR by number, each HOUSE that keeps it by number");
        RumourRent t = new RumourRent();
        Check.read(t, "rent 5;");
        Check.read(t, "rent 2*income+1;");
        t.rumour(0, 11);
        t.rumour(0, 99);
        t.tell(7, 0);
        t.tell(4, 0);
        t.tell(0, 0);
        t.by(0);
        s.takes("11 of three fives", t.day(1), 11);
        s.takes("the lowest house first", t.of(0, 2), 5);
        s.takes("the next", t.of(4, 2), 5);
        s.leaves("more than is left for the last", t.of(7, 2), 1);
        // Of two rumours in one house: rumour 0 makes income 1, then rumour 1 has rent by that.
        RumourRent u = new RumourRent();
        Check.read(u, "rent (1-number)+number*income*10;");
        u.rumour(0, 9);
        u.rumour(0, 99);
        u.tell(5, 1);
        u.tell(5, 0);
        u.by(0);
        s.takes("rumour 0 ahead of rumour 1", u.day(1), 11);
        s.takes("off the purse of rumour 1", u.ofRumour(1, 1), 89);
    }

    // X is 379 at first: house 3 is drawn, then 23479.
    private static void drawnHouse() {
        Sentence s = Sentence.of(13, "a draw by 8 (X mod 8, X being (X * 631 + 497) mod 30881 then): a HOUSE");
        for (int teller = 0; teller < 8; teller++) {
            RumourRent t = new RumourRent();
            t.road(teller, teller + 1 & 7);
            t.rumour(0, 0);
            t.tell(teller, 0);
            t.day(1);
            int heard = t.of(teller + 1 & 7, 1);
            if (teller == 3) {
                s.takes("house 3", heard, 1);
            } else {
                s.leaves("house " + teller, heard, 0);
            }
            s.takes("X behind two draws", t.is(1), 23747);
        }
    }

    // 23479 mod 1, 2, 3, 4 is 0, 1, 1, 3.
    private static void drawnRumour() {
        Sentence s = Sentence.of(13, "a draw by how many: a RUMOUR");
        int[] drawn = {0, 1, 1, 3};
        for (int many = 1; many <= 4; many++) {
            RumourRent t = new RumourRent();
            t.road(3, 0);
            Check.rumours(t, many);
            t.rooms(3, 4);
            t.rooms(0, 4);
            for (int i = 0; i < many; i++) t.tell(3, i);
            t.day(1);
            s.takes("of " + many, t.of(0, 1), 1 << drawn[many - 1]);
            s.takes("X, of " + many, t.is(1), 23747);
        }
        RumourRent t = new RumourRent();
        t.road(3, 0);
        Check.rumours(t, 4);
        t.rooms(3, 3);
        for (int i = 0; i < 3; i++) t.tell(3, i);
        t.day(1);
        s.leaves("those that aren't drawn", t.of(0, 1), 0);
    }

    // SEED 5585 makes X 11549, whose next is 0; 7616 makes it 15611, whose next is 30880, the greatest.
    private static void drawWrapsAround() {
        Sentence s = Sentence.of(13, "X being (X * 631 + 497) mod 30881 then");
        RumourRent t = new RumourRent();
        t.years(5585, 1);
        s.takes("0", t.is(1), 0);
        t.rumour(0, 0);
        t.day(1);
        s.takes("two draws from 0", t.is(1), (497 * 631 + 497) % 30881);
        RumourRent u = new RumourRent();
        u.years(7616, 1);
        s.takes("30880", u.is(1), 30880);
        u.rumour(0, 0);
        u.day(1);
        s.takes("two draws from 30880", u.is(1), (30747 * 631 + 497) % 30881);
    }

    private static void noDrawWithoutRumours() {
        Sentence s = Sentence.of(13, "Then, are there RUMOURS, a draw by 8");
        RumourRent t = new RumourRent();
        t.day(1);
        s.leaves("none", t.is(1), 379);
        t.rumour(0, 0);
        t.day(1);
        s.takes("one that nobody keeps", t.is(1), 23747);
    }

    private static void toldToThoseBeside() {
        Sentence s = Sentence.of(13, "does that HOUSE keep it, it is TOLD to each HOUSE beside by number that can be TOLD it (as it is then).");
        RumourRent t = Check.withRoads(3, 7, 3, 0, 3, 5, 3, 2, 7, 6);
        Check.rumours(t, 1);
        t.rooms(2, 0);
        t.rooms(5, 1);
        t.tell(3, 0);
        t.tell(0, 0);
        t.day(1);
        s.takes("those beside with a room", t.ofRumour(0, 2), 1 << 3 | 1 << 7 | 1 | 1 << 5);
        s.leaves("one beside without a room", t.of(2, 1), 0);
        s.leaves("one that is not beside", t.of(6, 1), 0);
        s.takes("the lower first, of those who hadn't it", t.book(2, 1), 5);
        s.takes("the higher behind it", t.book(3, 1), 7);
        s.leaves("one who keeps it already", t.book(-1, 0), 4);
        // House 5 believes it when one beside keeps it, house 7 when two do: 3, and 5 if that is beside.
        RumourRent u = Check.withRoads(3, 5, 3, 7, 5, 7);
        RumourRent v = Check.withRoads(3, 5, 3, 7);
        for (RumourRent town : new RumourRent[] {u, v}) {
            Check.read(town, "believes near-house/7;");
            Check.rumours(town, 1);
            town.tell(3, 0);
            town.by(0);
            town.day(1);
        }
        s.takes("one that believes it by what was told just then", u.ofRumour(0, 2), 1 << 3 | 1 << 5 | 1 << 7);
        s.leaves("one that does not believe it", v.ofRumour(0, 2), 1 << 3 | 1 << 5);
    }

    private static void lastDay() {
        Sentence s = Sentence.of(13, "DAY is one more (at 9999 none can pass).");
        Sentence day = Sentence.of(13, "DAY 0 .. 9999 (at first 0).");
        RumourRent t = Check.onDay(9998);
        day.takes("0", new RumourRent().is(0), 0);
        t.rumour(1, 5);
        t.tell(0, 0);
        s.takes("the day from 9998", t.day(1), 2);
        day.takes("9999", t.is(0), 9999);
        int x = t.is(1);
        s.leaves("a day from 9999", t.day(1), -1);
        day.leaves("10000", t.is(0), 9999);
        s.leaves("its rent", t.ofRumour(0, 1), 3);
        s.leaves("its draws", t.is(1), x);
        t.undo();
        s.takes("the day from 9998 again", t.day(1), 2);
    }

    private static void dayNumbers() {
        Sentence s = Sentence.of(13, "DAYS pass (1 .. 60): how much rent is paid in them.");
        RumourRent t = new RumourRent();
        t.rumour(0, 999);
        t.tell(0, 0);
        s.takes("1", t.day(1), 1);
        s.takes("60", t.day(60), 60);
        for (int w : new int[] {0, -1, 61, LOW, HIGH}) s.leaves("days: " + w, t.day(w), -1);
        s.takes("61 in all", t.is(0), 61);
        s.takes("as much rent", t.of(0, 2), 61);
        // The greatest rent that days can have: 60 of them, with all houses and rumours.
        RumourRent u = new RumourRent();
        Check.read(u, "rent 99;");
        u.by(0);
        for (int i = 0; i < 4; i++) {
            u.rumour(1, 999);
            for (int j = 0; j < 10; j++) u.gift(i, j < 9 ? 999 : 9);
        }
        for (int h = 0; h < 8; h++) u.rooms(h, 4);
        for (int h = 0; h < 32; h++) u.tell(h / 4, h % 4);
        s.takes("rent of one day of all", u.day(1), 32 * 99);
        s.takes("rent till all purses are empty", u.day(60), 4 * 9999 - 32 * 99);
    }

    private static void dayBeyond() {
        Sentence s = Sentence.of(13, "NONE for others, or beyond 9999 (nothing is done then).");
        RumourRent t = Check.onDay(9939);
        t.rumour(0, 99);
        t.tell(0, 0);
        t.image();
        s.takes("60 from 9939", t.day(60), 60);
        s.takes("9999", t.is(0), 9999);
        t.back();
        t.day(1);
        int steps = t.about(4);
        s.leaves("60 from 9940", t.day(60), -1);
        s.takes("9940 still", t.is(0), 9940);
        s.takes("no rent", t.ofRumour(0, 1), 98);
        s.takes("no step", t.about(4), steps);
        s.takes("59 from 9940", t.day(59), 59);
    }

    private static void playedInOrder() {
        Sentence s = Sentence.of(14, "PLAYED by a TEXT: its CLAUSES but laws, in their order, as by hand;");
        Sentence others = Sentence.of(14, "PLAYED by a TEXT: NONE: all is done; else the number of the CLAUSE that can't be. -2 for others.");
        RumourRent t = new RumourRent();
        others.leaves("text 0 ahead of any", t.played(0), -2);
        Check.read(t, "rent 9;tell 7 of 0;rumour 1 purse 50;");
        Check.read(t, "believes 0;rumour 1 purse 50;rent 9;tell 7 of 0;day 1;");
        Check.read(t, "believes 0;rent 0;");
        s.leaves("a rumour ahead of its being told", t.played(0), 1);
        s.leaves("what is behind it", t.about(1), 0);
        others.takes("all of it", t.played(1), -1);
        s.takes("rent without its laws", t.is(3), 2);
        s.leaves("its law", t.about(3), -1);
        others.takes("laws alone", t.played(2), -1);
        others.takes("an empty one, the fourth", t.played(Check.read(t, "")), -1);
        for (int w : new int[] {-1, -2, 4, LOW, HIGH}) others.leaves("text " + w, t.played(w), -2);
        Check.due("14 by the law that rules", t.by(1), true);
        s.leaves("what the ruling law doesn't let be", t.played(1), 3);
    }

    private static void playedDays() {
        Sentence s = Sentence.of(14, "(of so many DAYS those that can pass do)");
        RumourRent t = Check.onDay(9939);
        Check.read(t, "day 60;");
        Check.read(t, "rent 1;day 60;rooms 0 at 0;");
        t.image();
        s.takes("60 from 9939", t.played(0), -1);
        s.takes("9999", t.is(0), 9999);
        s.leaves("60 from 9999", t.played(0), 0);
        t.back();
        t.day(1);
        s.leaves("60 from 9940", t.played(1), 1);
        s.takes("those 59 that can pass", t.is(0), 9999);
        s.leaves("what is behind them", t.of(0, 0), 2);
        t.undo();
        s.takes("a step each", t.is(0), 9998);
    }

    private static void playedEnds() {
        Sentence s = Sentence.of(14, "one that can't be ends it");
        Sentence number = Sentence.of(14, "its number among all CLAUSES (from 0); what was done stays.");
        StringBuilder roads = new StringBuilder();
        for (int b = 1; b < 8; b++) roads.append("road 0 to ").append(b).append(';');
        for (int b = 2; b < 8; b++) roads.append("road 1 to ").append(b).append(';');
        RumourRent t = new RumourRent();
        Check.read(t, roads.toString());
        number.leaves("the 13th road", t.played(0), 12);
        s.takes("the twelve ahead of it", t.about(0), 12);
        number.leaves("the first road once more", t.played(0), 0);
        RumourRent u = new RumourRent();
        StringBuilder rumours = new StringBuilder("rent 1;");
        for (int i = 0; i < 5; i++) rumours.append("rumour 0 purse 0;");
        Check.read(u, rumours.toString());
        number.leaves("the fifth rumour, a law being ahead", u.played(0), 5);
        number.takes("the four ahead of it", u.about(1), 4);
        Check.read(u, "tell 0 of 0;tell 0 of 1;tell 0 of 2;day 1;");
        number.leaves("a third rumour in two rooms", u.played(1), 2);
        s.leaves("the day behind it", u.is(0), 0);
        number.takes("the two ahead of it", u.of(0, 1), 3);
        Check.read(u, "hush 0 of 0;hush 0 of 0;");
        number.leaves("what isn't kept any more", u.played(2), 1);
        StringBuilder longest = new StringBuilder("road 7 to 7;");
        for (int i = 0; i < 23; i++) longest.insert(0, "day 1;");
        Check.read(u, longest.toString());
        number.leaves("the 24th clause", u.played(3), 23);
        number.takes("the 23 ahead of it", u.is(0), 23);
        RumourRent v = new RumourRent();
        Check.read(v, "day 1;".repeat(24));
        number.takes("all of 24 clauses", v.played(0), -1);
        number.takes("24 days", v.is(0), 24);
    }

    private static void stepsAtMost() {
        Sentence s = Sentence.of(16, "the latest 30 can be taken back, the latest first");
        Sentence none = Sentence.of(16, "The latest STEP is taken back: how many can be yet. NONE: there is none.");
        RumourRent t = new RumourRent();
        none.leaves("no step", t.undo(), -1);
        t.rumour(0, 0);
        for (int i = 1; i <= 30; i++) t.gift(0, i);
        s.takes("thirty", t.about(4), 30);
        t.image();
        for (int left = 29; left >= 0; left--) {
            s.takes("the step ahead of " + left, t.undo(), left);
            s.takes("the purse then", t.ofRumour(0, 1), left * (left + 1) / 2);
        }
        none.leaves("a step beyond the first", t.undo(), -1);
        t.back();
        t.gift(0, 500);
        s.takes("thirty of 31", t.about(4), 30);
        for (int left = 29; left >= 0; left--) none.takes("one of them", t.undo(), left);
        s.leaves("the first of 31", t.undo(), -1);
        s.leaves("what it gave", t.ofRumour(0, 1), 1);
        t.gift(0, 7);
        none.takes("a step behind all that", t.undo(), 0);
    }

    private static void stepsOfDays() {
        Sentence s = Sentence.of(16, "STEPS: TOLD, HUSHED, GIVEN, a DAY (each), YEARS (see V)");
        RumourRent t = new RumourRent();
        t.day(30);
        s.takes("thirty days", t.about(4), 30);
        t.undo();
        s.takes("one of them", t.is(0), 29);
        t.day(60);
        for (int i = 0; i < 30; i++) t.undo();
        s.leaves("more than thirty of sixty", t.undo(), -1);
        s.takes("thirty of sixty", t.is(0), 59);
        t.rumour(0, 0);
        int[] counts = new int[4];
        t.tell(0, 0);
        counts[0] = t.about(4);
        t.hush(0, 0);
        counts[1] = t.about(4);
        t.gift(0, 1);
        counts[2] = t.about(4);
        t.years(0, 40);
        counts[3] = t.about(4);
        for (int i = 0; i < 4; i++) s.takes("a step of kind " + i, counts[i], i + 1);
    }

    private static void refusedIsNoStep() {
        Sentence s = Sentence.of(16, "STEPS: TOLD, HUSHED, GIVEN");
        RumourRent t = new RumourRent();
        Check.rumours(t, 1);
        t.tell(0, 0);
        t.tell(0, 0);
        t.hush(1, 0);
        t.gift(0, 0);
        t.day(61);
        t.years(0, 41);
        t.years(10000, 1);
        t.road(0, 1);
        t.rooms(0, 1);
        t.by(-1);
        t.heard(0, 0);
        t.pack(1);
        t.said(0, 0, 0);
        t.image();
        s.leaves("calls that are refused or tell of other things", t.about(4), 1);
        s.takes("the one that was TOLD", t.undo(), 0);
        s.takes("the road as it is", t.about(0), 1);
        s.takes("the rooms as they are", t.of(0, 0), 1);
    }

    private static void undoGivesBack() {
        Sentence s = Sentence.of(16, "(what HOUSES keep, INCOMES, PURSES, rent paid, DAY, X, BOOK are as ahead of it;");
        RumourRent t = Check.withRoads(3, 0);
        t.rumour(1, 20);
        t.tell(3, 0);
        t.day(1);
        t.day(1);
        s.takes("the second day", t.undo(), 2);
        s.takes("what houses keep", t.ofRumour(0, 2), 9);
        s.takes("incomes", t.of(3, 2), 2);
        s.takes("incomes of others", t.of(0, 2), 0);
        s.takes("purses", t.ofRumour(0, 1), 18);
        s.takes("rent paid", t.is(3), 2);
        s.takes("DAY", t.is(0), 1);
        s.takes("X", t.is(1), 23747);
        s.takes("BOOK", t.book(-1, 0), 2);
        s.takes("the first day", t.undo(), 1);
        s.leaves("what was told on it", t.ofRumour(0, 2), 8);
        s.leaves("its rent", t.is(3), 0);
        s.leaves("its draws", t.is(1), 379);
        s.leaves("its entry", t.book(-1, 0), 1);
        s.leaves("its income", t.of(3, 2), 0);
    }

    private static void rumoursToldSince() {
        Sentence s = Sentence.of(16, "RUMOURS told since are kept nowhere, with PURSES as told)");
        RumourRent t = new RumourRent();
        t.rumour(0, 10);
        t.gift(0, 5);
        t.tell(0, 0);
        t.rumour(1, 20);
        t.gift(1, 5);
        t.tell(0, 1);
        t.tell(1, 1);
        for (int i = 0; i < 3; i++) t.undo();
        s.takes("one told since, kept nowhere by its own steps", t.ofRumour(1, 2), 0);
        s.takes("its purse as told", t.ofRumour(1, 1), 20);
        t.undo();
        s.takes("one told since", t.about(1), 2);
        s.takes("its purse as told", t.ofRumour(1, 1), 20);
        s.leaves("one told before: its purse as given", t.ofRumour(0, 1), 15);
        t.undo();
        s.leaves("one told before: its purse ahead of that", t.ofRumour(0, 1), 10);
        // With 31 steps the first gift can't be taken back, and the later rumour has what it was given.
        RumourRent u = new RumourRent();
        u.rumour(0, 0);
        u.tell(0, 0);
        u.rumour(1, 7);
        u.gift(1, 3);
        u.tell(2, 1);
        for (int i = 0; i < 29; i++) u.gift(0, 1);
        for (int i = 0; i < 30; i++) u.undo();
        s.leaves("one whose gift can't be taken back", u.ofRumour(1, 1), 10);
        s.takes("its being kept nowhere", u.ofRumour(1, 2), 0);
        RumourRent w = new RumourRent();
        w.day(1);
        for (int i = 0; i < 4; i++) w.rumour(1, 10 * i + 9);
        for (int h = 0; h < 4; h++) w.tell(h, h);
        w.day(2);
        for (int i = 0; i < 7; i++) w.undo();
        for (int i = 0; i < 4; i++) {
            s.takes("purse " + i + " of four told since", w.ofRumour(i, 1), 10 * i + 9);
            s.takes("keepers " + i + " of four told since", w.ofRumour(i, 2), 0);
        }
    }

    private static void foretoldDays() {
        Sentence s = Sentence.of(23, "FORETOLD behind n DAYS (1 .. 60; those that can pass), nothing else being done.");
        RumourRent t = Check.onDay(9938);
        t.rumour(0, 99);
        t.tell(0, 0);
        s.takes("1", t.foretold(1, 1, 0), 98);
        s.takes("60", t.foretold(60, 1, 0), 39);
        for (int w : new int[] {0, -1, 61, LOW, HIGH}) s.leaves("days: " + w, t.foretold(w, 1, 0), -1);
        t.day(1);
        s.takes("60 from 9939", t.foretold(60, 1, 0), 38);
        t.day(1);
        s.takes("59 from 9940", t.foretold(59, 1, 0), 38);
        s.leaves("the last of 60 from 9940", t.foretold(60, 1, 0), 38);
        t.day(59);
        s.leaves("a day from 9999", t.foretold(1, 1, 0), 38);
        s.takes("what is kept then", t.foretold(60, 0, 0), 1);
    }

    private static void foretoldAsked() {
        Sentence s = Sentence.of(23, "FORETOLD: 0 RUMOURS a HOUSE keeps (bits), 1 PURSE of a RUMOUR. NONE for others.");
        Sentence nothing = Sentence.of(23, "All that follows changes nothing but what is told.");
        RumourRent t = Check.withRoads(3, 7);
        s.takes("house 0 without rumours", t.foretold(1, 0, 0), 0);
        s.leaves("rumour 0 ahead of any", t.foretold(1, 1, 0), -1);
        Check.rumours(t, 3);
        s.leaves("rumour 3 of three", t.foretold(1, 1, 3), -1);
        t.rumour(1, 50);
        t.tell(3, 3);
        s.takes("house 7", t.foretold(1, 0, 7), 8);
        s.takes("rumour 3", t.foretold(1, 1, 3), 48);
        for (int w : new int[] {-1, 2, LOW, HIGH}) s.leaves("what " + w, t.foretold(1, w, 0), -1);
        for (int w : new int[] {-1, 8, LOW, HIGH}) s.leaves("house " + w, t.foretold(1, 0, w), -1);
        for (int w : new int[] {-1, 4, LOW, HIGH}) s.leaves("rumour " + w, t.foretold(1, 1, w), -1);
        nothing.takes("the purse as it is", t.ofRumour(3, 1), 50);
        nothing.takes("X as it is", t.is(1), 379);
        nothing.takes("house 7 as it is", t.of(7, 1), 0);
        nothing.takes("the book as it is", t.book(-1, 0), 1);
        nothing.leaves("a step", t.about(4), 1);
    }

    private static void yearsNumbers() {
        Sentence s = Sentence.of(15, "YEARS by a SEED: X is SEED (0 .. 9999) * 2 + 379; n times (1 .. 40)");
        RumourRent t = new RumourRent();
        s.takes("SEED 0, once: 379", t.years(0, 1), 0);
        s.takes("X behind 379", t.is(1), 23479);
        s.takes("SEED 9999, once: 20377", t.years(9999, 1), 0);
        s.takes("X behind 20377", t.is(1), 11888);
        int x = 20377;
        for (int i = 0; i < 40; i++) x = (x * 631 + 497) % 30881;
        s.takes("forty times", t.years(9999, 40) >= 0, true);
        s.takes("X behind forty", t.is(1), x);
        s.leaves("SEED below 0", t.years(-1, 40), -1);
        s.leaves("SEED 10000", t.years(10000, 40), -1);
        s.leaves("no time", t.years(9999, 0), -1);
        s.leaves("41 times", t.years(9999, 41), -1);
        Sentence others = Sentence.of(15, "YEARS: DAY. NONE for others.");
        int day = t.is(0);
        for (int w : new int[] {-1, 10000, LOW, HIGH}) others.leaves("SEED " + w, t.years(w, 1), -1);
        for (int w : new int[] {0, -1, 41, LOW, HIGH}) others.leaves("n " + w, t.years(0, w), -1);
        others.takes("X as it was", t.is(1), x);
        others.takes("three steps", t.about(4), 3);
        // 383 is a day: 383 mod 6 = 5.
        others.takes("DAY behind it", t.years(2, 1), day + 1);
    }

    // SEED 0: 379 mod 6 = 1, house 379 / 6 mod 8 = 7.
    private static void yearsTold() {
        Sentence s = Sentence.of(15, "x is X, X anew (as in a draw by 2): x mod 6: 0, 1 RUMOUR x mod how many is TOLD to HOUSE x / 6 mod 8;");
        Sentence can = Sentence.of(15, "(each if it can be)");
        RumourRent t = new RumourRent();
        Check.rumours(t, 1);
        t.years(0, 1);
        s.takes("379: house 7", t.ofRumour(0, 2), 1 << 7);
        can.leaves("one that it keeps already", t.years(0, 1), 0);
        can.takes("one entry", t.book(-1, 0), 1);
        // 379 mod 2, 3, 4 is 1, 1, 3.
        int[] drawn = {0, 1, 1, 3};
        for (int many = 1; many <= 4; many++) {
            RumourRent u = new RumourRent();
            Check.rumours(u, many);
            u.years(0, 1);
            s.takes("379 of " + many, u.of(7, 1), 1 << drawn[many - 1]);
        }
        RumourRent v = new RumourRent();
        Check.rumours(v, 1);
        v.rooms(7, 0);
        v.years(0, 1);
        can.leaves("house 7 without a room", v.ofRumour(0, 2), 0);
        v.rooms(7, 1);
        v.years(0, 1);
        can.takes("house 7 with one", v.ofRumour(0, 2), 1 << 7);
        Sentence zero = Sentence.of(15, "0, 1 RUMOUR x mod how many is TOLD");
        int seed = seed(3, 0);
        RumourRent w = new RumourRent();
        Check.rumours(w, 1);
        w.years(seed, 2);
        zero.takes("x mod 6 = 0", w.ofRumour(0, 2), 1 << secondX(seed) / 6 % 8);
        RumourRent other = new RumourRent();
        Check.rumours(other, 1);
        other.years(seed(3, 2), 2);
        zero.leaves("x mod 6 = 2", other.book(-1, 0), 0);
    }

    // X by a SEED is odd, and so is x mod 6 of the first x: what is even comes second.
    private static int seed(int first, int second) {
        for (int seed = 0; seed < 10000; seed++) {
            int x = seed * 2 + 379;
            if (x % 6 == first && (x * 631 + 497) % 30881 % 6 == second) return seed;
        }
        throw new IllegalStateException("no such seed");
    }

    private static int secondX(int seed) {
        return ((seed * 2 + 379) * 631 + 497) % 30881;
    }

    private static void yearsHushedAndGiven() {
        Sentence s = Sentence.of(15, "2 HUSHED there; 3 it is GIVEN 1 and x / 6 mod 9 (each if it can be)");
        int seed = seed(3, 2);
        int there = secondX(seed) / 6 % 8;
        RumourRent t = new RumourRent();
        Check.rumours(t, 1);
        t.years(seed, 2);
        s.leaves("what isn't kept there", t.ofRumour(0, 2), 0);
        for (int h = 0; h < 8; h++) t.tell(h, 0);
        t.years(seed, 2);
        s.takes("what is kept there", t.ofRumour(0, 2), 255 & ~(1 << there));
        // SEED 1: 381 / 6 = 63, mod 9 is 0: 1 is given. SEED 25: 429 / 6 = 71, mod 9 is 8: 9.
        int[] seeds = {1, 25};
        int[] sums = {1, 9};
        for (int i = 0; i < 2; i++) {
            RumourRent u = new RumourRent();
            u.rumour(0, 999);
            u.years(seeds[i], 1);
            s.takes("a gift of " + sums[i], u.ofRumour(0, 1), 999 + sums[i]);
            for (int left = 9000 - 2 * sums[i]; left > 0; left -= Math.min(left, 999)) u.gift(0, Math.min(left, 999));
            s.takes("a purse that has room for just that", u.ofRumour(0, 1), 9999 - sums[i]);
            u.years(seeds[i], 1);
            s.takes("a gift up to 9999", u.ofRumour(0, 1), 9999);
            u.undo();
            u.gift(0, 1);
            u.years(seeds[i], 1);
            s.leaves("a gift beyond 9999", u.ofRumour(0, 1), 10000 - sums[i]);
        }
    }

    private static void yearsDays() {
        Sentence s = Sentence.of(15, "4, 5 a DAY (if it can pass).");
        RumourRent t = Check.onDay(9998);
        s.takes("5: from 9998", t.years(2, 1), 9999);
        s.leaves("5: from 9999", t.years(2, 1), 9999);
        s.takes("X anew all the same", t.is(1), 26003);
        t.rumour(0, 0);
        t.years(2, 1);
        s.leaves("the draws of a day that can't pass", t.is(1), 26003);
        int seed = seed(1, 4);
        RumourRent u = new RumourRent();
        s.takes("4", u.years(seed, 2), 1);
        for (int kind = 0; kind < 4; kind++) {
            int other = kind % 2 == 1 ? seed(kind, 0) : seed(1, kind);
            s.leaves("x mod 6 = " + kind, u.years(other, kind % 2 == 1 ? 1 : 2), 1);
        }
    }

    private static void yearsOfNothing() {
        Sentence s = Sentence.of(15, "What there are none of isn't.");
        RumourRent t = new RumourRent();
        for (int kind = 0; kind < 4; kind++) {
            int seed = kind % 2 == 1 ? seed(kind, 0) : seed(1, kind);
            s.leaves("a rumour, x mod 6 = " + kind, t.years(seed, kind % 2 == 1 ? 1 : 2), 0);
            s.leaves("an entry", t.book(-1, 0), 0);
        }
        s.takes("a day without rumours", t.years(2, 1), 1);
        s.takes("X of one draw", t.is(1), 26003);
    }

    private static void yearsOneStep() {
        Sentence s = Sentence.of(15, "It is one STEP: DAY.");
        RumourRent t = new RumourRent();
        t.rumour(1, 50);
        t.tell(0, 0);
        t.day(1);
        int day = t.years(77, 40);
        s.takes("forty times: days among them", day > 2, true);
        s.takes("DAY", t.is(0), day);
        s.takes("one step of it", t.about(4), 3);
        s.takes("it being taken back", t.undo(), 2);
        s.takes("DAY ahead of it", t.is(0), 1);
        s.takes("X ahead of it", t.is(1), 23747);
        s.takes("the purse ahead of it", t.ofRumour(0, 1), 48);
        s.takes("the book ahead of it", t.book(-1, 0), 1);
        t.years(0, 1);
        s.takes("a step of once", t.about(4), 3);
    }
}
