import java.util.function.LongSupplier;
import java.util.function.ToLongFunction;

/** Calls that are refused do nothing, calls that ask change nothing, and an object stands 512 calls. */
final class BoundsOfCalls {
    private static final int HIGH = Integer.MAX_VALUE;

    private BoundsOfCalls() { }

    static void all() {
        refusedInEmptyTown();
        refusedInFullTown();
        askingChangesNothing();
        imageOfAll();
        fiveHundredAndTwelve();
    }

    /** All that can be seen of a town, in some 130 calls. */
    private static String seen(RumourRent t) {
        StringBuilder s = new StringBuilder();
        for (int i = 0; i < 9; i++) s.append(t.about(i)).append(' ');
        for (int i = 0; i < 4; i++) s.append(t.is(i)).append(' ');
        for (int h = 0; h < 8; h++) {
            for (int i = 0; i < 4; i++) s.append(t.of(h, i)).append(' ');
            s.append(t.since(h)).append(' ').append(t.packed(h - 1)).append(' ');
        }
        for (int r = 0; r < 4; r++) {
            for (int i = 0; i < 3; i++) s.append(t.ofRumour(r, i)).append(' ');
            s.append(t.rent(r, r)).append(' ').append(t.believes(7 - r, r)).append(' ').append(t.ledger(r)).append(' ');
        }
        for (int i = 0; i < 3; i++) s.append(t.book(0, i)).append(' ').append(t.book(t.book(-1, 0) - 1, i)).append(' ');
        return s.append(t.whose()).append(' ').append(t.fault(0)).append(' ').append(t.fault(1)).toString();
    }

    // Twelve roads, four rumours, four texts, more than thirty steps and entries, lists that are full, on the last day.
    private static RumourRent fullTown() {
        RumourRent t = Check.onDay(9990);
        for (int h = 1; h < 8; h++) t.road(0, h);
        for (int h = 2; h < 7; h++) t.road(1, h);
        for (int i = 0; i < 4; i++) t.rumour(i & 1, 100 + i);
        for (int i = 0; i < 4; i++) Check.read(t, "rent house+" + i + ";");
        t.by(2);
        for (int i = 0; i < 16; i++) t.tell(i & 7, i >> 2);
        t.day(9);
        for (int i = 0; i < 8; i++) {
            t.heard(i, i);
            t.pack(1);
            t.said(i, 0, i + 1);
        }
        for (int i = 0; i < 15; i++) t.feed(i, i, i, i, i);
        return t;
    }

    private static void refused(RumourRent t, Sentence s, String what, long due, LongSupplier call) {
        String before = seen(t);
        s.leaves(what, call.getAsLong(), due);
        s.takes("all as it was, behind " + what, seen(t).equals(before), true);
    }

    private static long asNumber(boolean answer) {
        return answer ? 1 : 0;
    }

    private static void refusedInEmptyTown() {
        empty(9, "False for others.", "by(0)", 0, t -> asNumber(t.by(0)));
        empty(10, "False, if it can't be, and for others.", "tell(0, 0)", 0, t -> asNumber(t.tell(0, 0)));
        empty(11, "False, if it is not kept there, and for others.", "hush(0, 0)", 0, t -> asNumber(t.hush(0, 0)));
        empty(12, "False for others (1 .. 999), and beyond 9999.", "gift(0, 1)", 0, t -> asNumber(t.gift(0, 1)));
        empty(2, "NONE for others (unlike HOUSES; of each two once)", "road(3, 3)", -1, t -> t.road(3, 3));
        empty(3, "NONE for others (truth 0, 1; 0 .. 999)", "rumour(0, 1000)", -1, t -> t.rumour(0, 1000));
        empty(4, "False for others (0 .. 4).", "rooms(0, 5)", 0, t -> asNumber(t.rooms(0, 5)));
        empty(6, "NONE, and nothing is done, if it has not so many", "end(1)", -1, t -> t.end(1));
        empty(13, "NONE for others, or beyond 9999 (nothing is done then).", "day(0)", -1, t -> t.day(0));
        empty(14, "-2 for others.", "played(0)", -2, t -> t.played(0));
        empty(15, "YEARS: DAY. NONE for others.", "years(0, 0)", -1, t -> t.years(0, 0));
        empty(16, "NONE: there is none.", "undo()", -1, t -> t.undo());
        empty(39, "-2 for others (0 .. 99), or if there are 8.", "heard(0, 100)", -2, t -> t.heard(0, 100));
        empty(43, "-2 for others (1 .. 4), or if there are 7.", "pack(5)", -2, t -> t.pack(5));
        empty(45, "-2 for others (0 .. 99), or if there are 8.", "said(0, 0, 0)", -2, t -> t.said(0, 0, 0));
    }

    private static void empty(int promise, String words, String what, long due, ToLongFunction<RumourRent> call) {
        RumourRent t = new RumourRent();
        refused(t, Sentence.of(promise, words), what + " in an empty town", due, () -> call.applyAsLong(t));
    }

    private static void refusedInFullTown() {
        full(2, "or if there are 12.", "road(6, 7)", -1, t -> t.road(6, 7));
        full(3, "or if there are 4.", "rumour(0, 0)", -1, t -> t.rumour(0, 0));
        full(4, "False for others (0 .. 4).", "rooms(8, 0)", 0, t -> asNumber(t.rooms(8, 0)));
        full(5, "NONE, and none come, if there would be more than 300.", "feed", -1, t -> t.feed(1, 2, 3, 4, 5));
        full(6, "NONE, and nothing is done, if it has not so many, or n is below 0.", "end(-1)", -1, t -> t.end(-1));
        full(7, "or (the tape stays) there are 4.", "text()", -1, t -> t.text());
        full(9, "False for others.", "by(4)", 0, t -> asNumber(t.by(4)));
        full(10, "False, if it can't be, and for others.", "tell(0, 1)", 0, t -> asNumber(t.tell(0, 1)));
        full(11, "False, if it is not kept there, and for others.", "hush(0, 1)", 0, t -> asNumber(t.hush(0, 1)));
        full(12, "False for others (1 .. 999), and beyond 9999.", "gift(0, 0)", 0, t -> asNumber(t.gift(0, 0)));
        full(13, "NONE for others, or beyond 9999 (nothing is done then).", "day(1)", -1, t -> t.day(1));
        full(14, "-2 for others.", "played(4)", -2, t -> t.played(4));
        full(15, "YEARS: DAY. NONE for others.", "years(10000, 1)", -1, t -> t.years(10000, 1));
        full(39, "-2 for others (0 .. 99), or if there are 8.", "heard(0, 0)", -2, t -> t.heard(0, 0));
        full(43, "-2 for others (1 .. 4), or if there are 7.", "pack(1)", -2, t -> t.pack(1));
        full(45, "-2 for others (0 .. 99), or if there are 8.", "said(0, 0, 0)", -2, t -> t.said(0, 0, 0));
    }

    private static void full(int promise, String words, String what, long due, ToLongFunction<RumourRent> call) {
        RumourRent t = fullTown();
        refused(t, Sentence.of(promise, words), what + " in a full town", due, () -> call.applyAsLong(t));
    }

    private static void askingChangesNothing() {
        Sentence s = Sentence.of(24, "All that follows changes nothing but what is told.");
        RumourRent t = fullTown();
        RumourRent like = fullTown();
        for (int i = 0; i < 2; i++) askAll(t);
        s.takes("a town that was asked as one that wasn't", seen(t).equals(seen(like)), true);
        t.undo();
        like.undo();
        s.takes("their steps too", seen(t).equals(seen(like)), true);
    }

    private static void askAll(RumourRent t) {
        t.foretold(60, 0, 0);
        t.foretold(60, 1, 3);
        t.far(0, 7);
        t.path(0, 7, 1);
        t.out(3);
        t.centre(false);
        t.wide();
        t.parts();
        t.threes();
        t.trees();
        t.colours(4);
        t.colour(4, 7);
        t.round(0);
        t.rounds();
        t.block(6, 7, false);
        t.agents(1, false);
        t.reach(6, 7, true);
        t.began(9);
        t.since(0);
        t.ask(9);
        t.packed(-1);
        t.packed(6);
        t.whose();
        t.dearest();
        t.richest();
        t.ledger(-1);
    }

    // A town of which nothing is as in a new one; its latest steps and entries are more than can be kept.
    private static RumourRent usedTown() {
        RumourRent t = Check.withRoads(0, 7, 7, 3, 3, 1);
        t.rumour(1, 90);
        t.rumour(0, 80);
        t.rumour(1, 70);
        for (int h = 0; h < 8; h++) t.rooms(h, 4 - h % 3);
        Check.read(t, "rent house+number;");
        Check.read(t, "believes 5-house/7;rent all;");
        t.by(1);
        for (int i = 0; i < 16; i++) {
            t.tell(i & 7, i >> 3);
            t.day(1);
        }
        t.heard(7, 9);
        t.heard(3, 4);
        t.pack(3);
        t.pack(1);
        t.said(3, 1, 4);
        t.said(7, 2, 9);
        return t;
    }

    private static void useAgain(RumourRent t) {
        t.road(5, 6);
        t.rumour(0, 5);
        t.undo();
        t.undo();
        for (int h = 0; h < 8; h++) t.rooms(h, h % 5);
        Check.read(t, "rent 50;");
        t.by(2);
        for (int i = 0; i < 8; i++) t.tell(i, 2);
        t.gift(1, 9);
        t.gift(2, 9);
        t.hush(0, 0);
        t.day(35);
        t.years(5, 9);
        t.heard(-1, 0);
        t.heard(0, 77);
        t.heard(1, 7);
        t.heard(2, 70);
        t.pack(-1);
        t.pack(2);
        t.pack(2);
        t.pack(4);
        t.said(-1, 0, 0);
        t.said(0, 0, 1);
        t.said(1, 1, 2);
        t.said(2, 0, 3);
    }

    private static String wholeBook(RumourRent t) {
        StringBuilder s = new StringBuilder();
        for (int i = 0; i < 30; i++) s.append(t.book(i, 0)).append(t.book(i, 1)).append(t.book(i, 2)).append(' ');
        return s.toString();
    }

    // What the image holds is seen beside a town like it, of which none was made.
    private static void imageOfAll() {
        Sentence s = Sentence.of(51, "AN IMAGE: all as it is, but the tape and the latest FAULT. BACK: all is so again.");
        RumourRent t = usedTown();
        RumourRent like = usedTown();
        s.takes("the day of the image", t.image(), 16);
        useAgain(t);
        s.leaves("the day without going back", t.is(0) > 16, true);
        t.back();
        s.takes("all that can be seen", seen(t).equals(seen(like)), true);
        s.takes("the book", wholeBook(t).equals(wholeBook(like)), true);
        for (int left = 29; left >= 0; left--) s.takes("a step, and " + left + " more", t.undo(), left);
        for (int i = 0; i < 30; i++) like.undo();
        s.takes("what the steps give back", seen(t).equals(seen(like)), true);
        // A rumour told behind going back is another one than that of its number before.
        RumourRent v = new RumourRent();
        v.day(1);
        v.image();
        v.rumour(0, 30);
        v.back();
        v.rumour(1, 40);
        v.undo();
        s.takes("a purse as told behind going back", v.ofRumour(0, 1), 40);
        s.takes("the truth as told then", v.ofRumour(0, 0), 1);
    }

    private static void fiveHundredAndTwelve() {
        Sentence s = Sentence.of(1, "An object is used for at most 512 calls after it has been made; what later calls answer is free.");
        RumourRent t = new RumourRent();
        t.rumour(0, 999);
        t.tell(0, 0);
        for (int i = 3; i <= 511; i++) t.gift(0, 1);
        s.takes("the 512th call", t.ofRumour(0, 1), 999 + 509);
        // What is answered behind that is free; but no call may throw (LANGUAGE.md, 7).
        for (int i = 0; i < 20000; i++) {
            t.day(1);
            t.feed(i, HIGH, i, -i, i);
            t.text();
            t.undo();
            t.years(i % 10000, 40);
            t.heard(i & 7, i % 100);
        }
        s.leaves("calls beyond: they end", t.about(9), -2);
    }
}
