/** Bounds of the tape, of texts and of what laws say: promises 5 to 8, 19 and 20, and part II. */
final class BoundsOfTexts {
    private static final int LOW = Integer.MIN_VALUE;
    private static final int HIGH = Integer.MAX_VALUE;

    private BoundsOfTexts() { }

    static void all() {
        feed();
        feedOrder();
        end();
        textsAtMost();
        textOfThreeHundred();
        textLeavesTape();
        fault();
        believesBounds();
        rentBounds();
        believesWithout();
        rentWithout();
        lawsOfOthers();
        sums();
        cuts();
        million();
        means();
        kept();
        choices();
        asks();
        eithers();
        namesOfBoth();
        namesOfBelieves();
        namesOfRent();
    }

    private static void feed() {
        Sentence s = Sentence.of(5, "NONE, and none come, if there would be more than 300.");
        RumourRent t = new RumourRent();
        for (int i = 1; i <= 15; i++) s.takes("feed " + i, t.feed(1, 2, 3, 4, 5), 20 * i);
        s.leaves("320", t.feed(1, 2, 3, 4, 5), -1);
        s.takes("300 as they are", t.about(8), 300);
        t.end(281);
        s.leaves("301", t.feed(1, 2, 3, 4, 5), -1);
        s.takes("281 as they are", t.about(8), 281);
        t.end(280);
        s.takes("300", t.feed(1, 2, 3, 4, 5), 300);
    }

    private static void feedOrder() {
        Sentence s = Sentence.of(5, "Twenty bytes come behind the tape, the highest of a first: how many it has.");
        // "rent 1;" over two numbers, twice; what is second can't stand: at the 21st byte.
        RumourRent t = new RumourRent();
        s.takes("20", t.feed(0x72656e74, 0x20313b20, 0x20202020, 0x20202020, 0x20202020), 20);
        s.takes("40", t.feed(0x72656e74, 0x20313b20, 0x20202020, 0x20202020, 0x20202020), 40);
        t.text();
        s.takes("the second rent", t.fault(0), 4);
        s.takes("its place", t.fault(1), 20);
        s.takes("20 on the tape that is empty again", t.feed(-1, -1, -1, -1, -1), 20);
        t.text();
        s.leaves("byte 255 as a token", t.fault(0), 1);
        s.takes("the highest byte of a", t.fault(1), 0);
        int[] numbers = {0x20202020, 0x20202020, 0x20202020, 0x20202020, 0x20202020};
        for (int i = 0; i < 20; i++) {
            int[] fed = numbers.clone();
            fed[i / 4] ^= 0x01 << 24 - i % 4 * 8;
            t.feed(fed[0], fed[1], fed[2], fed[3], fed[4]);
            t.text();
            s.takes("byte " + i, t.fault(1), i);
        }
    }

    private static void end() {
        Sentence s = Sentence.of(6, "The tape has its first n bytes alone: n. NONE, and nothing is done, if it has not so many, or n is below 0.");
        RumourRent t = new RumourRent();
        s.takes("0 of 0", t.end(0), 0);
        s.leaves("1 of 0", t.end(1), -1);
        for (int i = 0; i < 15; i++) t.feed(0x72656e74, 0x20313b20, 0x20202020, 0x20202020, 0x20202020);
        s.leaves("301 of 300", t.end(301), -1);
        for (int w : new int[] {-1, LOW, HIGH}) s.leaves(w + " of 300", t.end(w), -1);
        s.takes("nothing done by these", t.about(8), 300);
        s.takes("300 of 300", t.end(300), 300);
        s.takes("299 of 300", t.end(299), 299);
        s.leaves("300 of 299", t.end(300), -1);
        s.takes("7 of 299", t.end(7), 7);
        s.takes("the first seven: rent 1;", t.text(), 0);
        s.leaves("1 of none", t.end(1), -1);
        t.feed(0x72656e74, 0x20313b20, 0x20202020, 0x20202020, 0x20202020);
        s.takes("0 of 20", t.end(0), 0);
        s.takes("none left", t.about(8), 0);
    }

    private static void textsAtMost() {
        Sentence s = Sentence.of(7, "TEXTS 0 .. 3: of up to 300 bytes.");
        Sentence four = Sentence.of(7, "or (the tape stays) there are 4.");
        RumourRent t = new RumourRent();
        for (int i = 0; i < 4; i++) s.takes("text " + i, Check.read(t, "rent " + i + ";"), i);
        s.takes("four", t.about(2), 4);
        Check.put(t, "rent 9;");
        four.leaves("a fifth", t.text(), -1);
        four.takes("the tape as it is", t.about(8), 7);
        four.takes("no fault", t.fault(0), 0);
        four.leaves("a fifth once more", t.text(), -1);
        s.leaves("text 4", t.by(4), false);
        t.rumour(0, 0);
        t.by(3);
        s.takes("the fourth as it was read", t.rent(0, 0), 3);
        t.back();
        four.takes("the tape, there being none", t.text(), 0);
    }

    private static void textOfThreeHundred() {
        Sentence s = Sentence.of(7, "of up to 300 bytes");
        StringBuilder sum = new StringBuilder("rent 1");
        while (sum.length() < 298) sum.append("+0");
        RumourRent t = new RumourRent();
        Check.put(t, sum + " ;");
        s.takes("300", t.about(8), 300);
        s.takes("a text of 300", t.text(), 0);
        t.rumour(0, 0);
        t.by(0);
        s.takes("what it says", t.rent(0, 0), 1);
        // The 300th byte counts: without its end the text has a fault, at the length.
        Check.put(t, sum + " ;");
        t.end(299);
        s.leaves("the end left out", t.text(), -1);
        s.leaves("its place, the length", t.fault(1), 299);
        Check.put(t, sum + "  ");
        t.text();
        s.leaves("300 without an end", t.fault(1), 300);
        s.takes("one of no byte", Check.read(t, ""), 1);
    }

    private static void textLeavesTape() {
        Sentence s = Sentence.of(7, "The tape (empty then) is a TEXT: its number. NONE: it has a FAULT;");
        RumourRent t = new RumourRent();
        s.takes("an empty one", t.text(), 0);
        s.takes("the next", Check.read(t, "day 1;"), 1);
        s.takes("an empty tape", t.about(8), 0);
        s.leaves("one with a fault", Check.read(t, "day 0;"), -1);
        s.takes("an empty tape then", t.about(8), 0);
        s.leaves("a text of it", t.about(2), 2);
        s.takes("the number that is next", Check.read(t, " "), 2);
    }

    private static void fault() {
        Sentence s = Sentence.of(8, "Of the latest text that was read: 0 its FAULT (0 without), 1 its place (NONE without). NONE for others, and ahead of any.");
        RumourRent t = new RumourRent();
        s.leaves("the fault ahead of any", t.fault(0), -1);
        s.leaves("the place ahead of any", t.fault(1), -1);
        Check.put(t, "?");
        s.leaves("the fault of what isn't read", t.fault(0), -1);
        t.text();
        s.takes("a fault", t.fault(0), 1);
        s.takes("place 0", t.fault(1), 0);
        for (int w : new int[] {-1, 2, LOW, HIGH}) s.leaves("what " + w, t.fault(w), -1);
        t.text();
        s.takes("none", t.fault(0), 0);
        s.takes("no place", t.fault(1), -1);
        for (int w : new int[] {-1, 2, LOW, HIGH}) s.leaves("what " + w, t.fault(w), -1);
        for (int i = 0; i < 3; i++) t.text();
        Check.read(t, "?");
        s.leaves("a fault of what isn't read, there being four", t.fault(0), 0);
    }

    /** What believes says by a law, of house 2 and rumour 0, that houses 0 and 3 keep. */
    static int believed(String sum) {
        RumourRent t = new RumourRent();
        Check.rumours(t, 2);
        t.tell(0, 0);
        t.tell(0, 1);
        t.tell(3, 0);
        Check.read(t, "believes " + sum + ";");
        Check.due("reading of " + sum, t.fault(0), 0);
        t.by(0);
        return t.believes(2, 0);
    }

    private static int charged(String sum) {
        RumourRent t = new RumourRent();
        Check.rumours(t, 1);
        Check.read(t, "rent " + sum + ";");
        t.by(0);
        return t.rent(0, 0);
    }

    private static void believesBounds() {
        Sentence s = Sentence.of(19, "believes: -99 at least, 99 at most; without: 1.");
        s.takes("99", believed("99"), 99);
        s.leaves("100", believed("100"), 99);
        s.leaves("1000000", believed("9999*9999"), 99);
        s.takes("-99", believed("-99"), -99);
        s.leaves("-100", believed("-100"), -99);
        s.leaves("-1000000", believed("-9999*9999"), -99);
        s.takes("0", believed("0"), 0);
    }

    private static void rentBounds() {
        Sentence s = Sentence.of(20, "rent: 0 at least, 99 at most; without: how many HOUSES keep it, twice if it is true.");
        s.takes("99", charged("99"), 99);
        s.leaves("100", charged("100"), 99);
        s.leaves("1000000", charged("9999*9999"), 99);
        s.takes("0", charged("0"), 0);
        s.takes("1", charged("1"), 1);
        s.leaves("-1", charged("-1"), 0);
        s.leaves("-1000000", charged("-9999*9999"), 0);
    }

    private static void believesWithout() {
        Sentence s = Sentence.of(19, "without: 1.");
        RumourRent t = new RumourRent();
        t.rumour(0, 0);
        s.takes("no text", t.believes(0, 0), 1);
        Check.read(t, "");
        Check.read(t, "rent 50;");
        Check.read(t, "believes 50;");
        t.by(0);
        s.takes("an empty text", t.believes(0, 0), 1);
        t.by(1);
        s.takes("a text with the other law", t.believes(0, 0), 1);
        t.by(2);
        s.leaves("a text with this law", t.believes(0, 0), 50);
    }

    private static void rentWithout() {
        Sentence s = Sentence.of(20, "without: how many HOUSES keep it, twice if it is true.");
        RumourRent t = new RumourRent();
        t.rumour(0, 0);
        t.rumour(1, 0);
        for (int kept = 0; kept <= 8; kept++) {
            s.takes(kept + " of one that isn't true", t.rent(7, 0), kept);
            s.takes(kept + " of a true one", t.rent(7, 1), 2 * kept);
            t.tell(kept, 0);
            t.tell(kept, 1);
        }
        Check.read(t, "believes 50;");
        Check.read(t, "rent 3;");
        t.by(0);
        s.takes("a text with the other law", t.rent(7, 1), 16);
        t.by(1);
        s.leaves("a text with this law", t.rent(7, 1), 3);
    }

    private static void lawsOfOthers() {
        Sentence believes = Sentence.of(19, "believes now. -100 for others.");
        Sentence rent = Sentence.of(20, "rent now. -100 for others.");
        RumourRent t = new RumourRent();
        believes.leaves("rumour 0 ahead of any", t.believes(0, 0), -100);
        rent.leaves("rumour 0 ahead of any", t.rent(0, 0), -100);
        Check.rumours(t, 3);
        believes.leaves("rumour 3 of three", t.believes(0, 3), -100);
        rent.leaves("rumour 3 of three", t.rent(0, 3), -100);
        Check.rumours(t, 1);
        t.tell(0, 3);
        believes.takes("rumour 3 and house 7", t.believes(7, 3), 1);
        rent.takes("rumour 3 and house 7, that doesn't keep it", t.rent(7, 3), 1);
        for (int w : new int[] {-1, 8, LOW, HIGH}) {
            believes.leaves("house " + w, t.believes(w, 0), -100);
            rent.leaves("house " + w, t.rent(w, 0), -100);
        }
        for (int w : new int[] {-1, 4, LOW, HIGH}) {
            believes.leaves("rumour " + w, t.believes(0, w), -100);
            rent.leaves("rumour " + w, t.rent(0, w), -100);
        }
    }

    private static void sums() {
        Sentence s = Sentence.of(19, "SUM: PRODUCT {+ or - PRODUCT}. PRODUCT: ONE {* or / ONE}. ONE: NUMBER, NAME, ( SUM ), - ONE");
        Sentence left = Sentence.of(19, "From the left;");
        s.takes("one ONE", believed("7"), 7);
        s.takes("products ahead of sums", believed("2+3*4-6/2"), 11);
        s.leaves("sums ahead of products", believed("(2+3)*(4-6)/2"), -5);
        s.takes("- of one ONE, not of the product", believed("-3/2"), -1);
        s.takes("- of a sum", believed("-(3-5)"), 2);
        left.takes("10-3-2", believed("10-3-2"), 5);
        left.leaves("10-(3-2)", believed("10-(3-2)"), 9);
        left.takes("90/4*4", believed("90/4*4"), 88);
        left.leaves("90/(4*4)", believed("90/(4*4)"), 5);
        left.takes("12/3/2", believed("12/3/2"), 2);
        left.takes("3*7/2", believed("3*7/2"), 10);
    }

    private static void cuts() {
        Sentence s = Sentence.of(19, "/ cuts towards 0, by 0 it is 0;");
        int[] upper = {-4, -3, -2, -1, 0, 1, 2, 3, 4};
        int[] halves = {-2, -1, -1, 0, 0, 0, 1, 1, 2};
        for (int i = 0; i < upper.length; i++) {
            s.takes(upper[i] + " by 2", believed(upper[i] + "/2"), halves[i]);
            s.takes(upper[i] + " by -2", believed(upper[i] + "/-2"), -halves[i]);
            s.takes(upper[i] + " by 1", believed(upper[i] + "/1"), upper[i]);
            s.leaves(upper[i] + " by 0", believed(upper[i] + "/0"), 0);
        }
        s.leaves("by what comes to 0", believed("5/(3-3)+8"), 8);
        s.leaves("by a half that is 0", believed("5/(1/2)"), 0);
        s.takes("the greatest by -1", believed("9999*9999/-1+9999*100+30"), -70);
    }

    // 9999 * 100 is 100 below 1000000: so much is taken off or put on to see it.
    private static void million() {
        Sentence s = Sentence.of(19, "what is above 1000000 (below the same less) is that, at each step.");
        s.takes("999999", believed("1000*1000-1-9999*100-50"), 49);
        s.takes("1000000", believed("1000*1000-9999*100-50"), 50);
        s.leaves("1000001 by a sum", believed("1000*1000+1-9999*100-50"), 50);
        s.leaves("1000001 by a difference", believed("1000*1000- -1-9999*100-50"), 50);
        s.leaves("1001000 by a product", believed("1001*1000-9999*100-50"), 50);
        s.leaves("the greatest product", believed("(9999*9999)*(9999*9999)-9999*100-50"), 50);
        s.takes("-999999", believed("-1000*1000+1+9999*100+50"), -49);
        s.takes("-1000000", believed("-1000*1000+9999*100+50"), -50);
        s.leaves("-1000001 by a difference", believed("-1000*1000-1+9999*100+50"), -50);
        s.leaves("-1000001 by a sum", believed("-1000*1000+ -1+9999*100+50"), -50);
        s.leaves("-1001000 by a product", believed("-1001*1000+9999*100+50"), -50);
        s.leaves("the least product", believed("(9999*9999)*-(9999*9999)+9999*100+50"), -50);
        s.leaves("what went beyond coming back", believed("1000*1000+9-9-9999*100-50"), 41);
        s.leaves("what went below coming back", believed("-1000*1000-9+9+9999*100+50"), -41);
        s.takes("- of 1000000", believed("-(1000*1000)+9999*100+50"), -50);
        s.takes("- of -1000000", believed("-(-1000*1000)-9999*100-50"), 50);
    }

    private static void means() {
        Sentence s = Sentence.of(19, "mean ONE of ONE (half of their sum, cut towards 0)");
        s.takes("3 and 5", believed("mean 3 of 5"), 4);
        s.takes("3 and 4", believed("mean 3 of 4"), 3);
        s.takes("0 and 1", believed("mean 0 of 1"), 0);
        s.takes("0 and -1", believed("mean 0 of -1"), 0);
        s.takes("-3 and -4", believed("mean -3 of -4"), -3);
        s.takes("-3 and 4", believed("mean -3 of 4"), 0);
        s.takes("-4 and 7", believed("mean -4 of 7"), 1);
        s.leaves("a product behind it", believed("mean 2 of 4*3"), 9);
        s.leaves("a sum behind it", believed("mean 2 of 4+3"), 6);
        s.takes("one inside the first", believed("mean mean 0 of 8 of 6"), 5);
        s.takes("one inside the second", believed("mean 6 of mean 0 of 8"), 5);
        s.takes("1000000 twice", believed("mean (1000*1000) of (1000*1000)-9999*100-50"), 50);
        s.takes("-1000000 twice", believed("mean (-1000*1000) of (-1000*1000)+9999*100+50"), -50);
    }

    private static void kept() {
        Sentence s = Sentence.of(19, "kept ONE (how many RUMOURS the HOUSE of that number keeps; 0 for others)");
        s.takes("house 0", believed("kept 0"), 2);
        s.takes("house 3", believed("kept 3"), 1);
        s.takes("house 7", believed("kept 7"), 0);
        s.leaves("house 8", believed("kept 8"), 0);
        s.leaves("house -1", believed("kept -1"), 0);
        s.leaves("house 9999", believed("kept 9999"), 0);
        s.leaves("the greatest", believed("kept (9999*9999)"), 0);
        s.leaves("the least", believed("kept (-9999*9999)"), 0);
        s.leaves("a sum behind it", believed("kept 0+3"), 5);
        s.takes("of what is kept", believed("kept (kept 0+1)"), 1);
        RumourRent t = new RumourRent();
        Check.rumours(t, 4);
        t.rooms(7, 4);
        for (int i = 0; i < 4; i++) t.tell(7, i);
        Check.read(t, "rent 10*kept 7+kept 6;");
        t.by(0);
        s.takes("four", t.rent(0, 0), 40);
    }

    private static void choices() {
        Sentence s = Sentence.of(19, "if EITHER then SUM else SUM end.");
        Sentence sides = Sentence.of(19, "or and and look at both sides always, of if just the SUM that is chosen is asked.");
        s.takes("the first SUM", believed("if 1=1 then 2+3 else 4+5 end"), 5);
        s.leaves("the first SUM", believed("if 1=2 then 2+3 else 4+5 end"), 9);
        s.takes("a sum behind it", believed("if 1=1 then 2 else 4 end+1"), 3);
        s.takes("a product ahead of it", believed("3*if 1=2 then 2 else 4 end"), 12);
        s.takes("one in the first", believed("if 1=1 then if 1=2 then 3 else 4 end else 5 end"), 4);
        s.takes("one in the second", believed("if 1=2 then 3 else if 1=2 then 4 else 5 end end"), 5);
        s.takes("one that is asked", believed("if if 1=2 then 0 else 7 end=7 then 4 else 5 end"), 4);
        sides.takes("a division by 0 that isn't chosen", believed("if 1=1 then 6 else 1/0 end"), 6);
        sides.takes("a division by 0 that is chosen", believed("if 1=2 then 6 else 1/0 end"), 0);
        sides.takes("or, its second side dividing by 0", believed("if 1=1 or 1/0=1 then 6 else 7 end"), 6);
        sides.leaves("and, its second side dividing by 0", believed("if 1=2 and 1/0=0 then 6 else 7 end"), 7);
    }

    private static void asks() {
        Sentence s = Sentence.of(19, "ASK: not ASK, or SUM one of < <= > >= = # (unlike) SUM.");
        String[] signs = {"<", "<=", ">", ">=", "=", "#"};
        boolean[][] due = {
            {true, false, false}, {true, true, false}, {false, false, true},
            {false, true, true}, {false, true, false}, {true, false, true}};
        for (int i = 0; i < signs.length; i++) {
            for (int j = 0; j < 3; j++) {
                ask(s, (4 + j) + signs[i] + "5", due[i][j]);
                ask(s, "not " + (4 + j) + signs[i] + "5", !due[i][j]);
                ask(s, "not not " + (4 + j) + signs[i] + "5", due[i][j]);
                ask(s, "-" + (6 - j) + signs[i] + "-5", due[i][j]);
            }
        }
        ask(s, "2+3=10/2", true);
        ask(s, "2+3<10/2", false);
    }

    private static void ask(Sentence s, String asked, boolean due) {
        int value = believed("if " + asked + " then 1 else 2 end");
        if (due) {
            s.takes(asked, value, 1);
        } else {
            s.leaves(asked, value, 2);
        }
    }

    private static void eithers() {
        Sentence s = Sentence.of(19, "EITHER: BOTH {or BOTH}. BOTH: ASK {and ASK}.");
        String[] asks = {"0=1", "0=0"};
        for (int a = 0; a < 2; a++) {
            for (int b = 0; b < 2; b++) {
                ask(s, asks[a] + " or " + asks[b], a + b > 0);
                ask(s, asks[a] + " and " + asks[b], a * b > 0);
                ask(s, "not " + asks[a] + " or " + asks[b], 1 - a + b > 0);
                ask(s, "not " + asks[a] + " and " + asks[b], (1 - a) * b > 0);
                for (int c = 0; c < 2; c++) {
                    ask(s, asks[a] + " or " + asks[b] + " and " + asks[c], a + b * c > 0);
                    ask(s, asks[a] + " and " + asks[b] + " or " + asks[c], a * b + c > 0);
                }
            }
        }
    }

    private static RumourRent ruledBy(String text) {
        RumourRent t = new RumourRent();
        Check.read(t, text);
        Check.due("reading of " + text, t.fault(0), 0);
        t.by(0);
        return t;
    }

    private static void namesOfBoth() {
        Sentence s = Sentence.of(19, "NAMES: day, house, number (of the RUMOUR), truth, purse (of it), near (how many HOUSES beside keep it) in both;");
        RumourRent t = ruledBy("believes near*10+truth;rent house*10+number;");
        for (int h = 1; h < 8; h++) t.road(0, h);
        Check.rumours(t, 3);
        t.rumour(1, 999);
        s.takes("house 7 and number 3", t.rent(7, 3), 73);
        s.takes("house 0 and number 0", t.rent(0, 0), 0);
        s.takes("none near, of a true one", t.believes(0, 3), 1);
        s.takes("none near, of one that isn't", t.believes(0, 2), 0);
        t.by(-1);
        for (int h = 0; h < 8; h++) t.tell(h, 3);
        t.by(0);
        s.takes("seven near, itself not among them", t.believes(0, 3), 71);
        s.takes("one near", t.believes(7, 3), 11);
        s.leaves("of another rumour", t.believes(0, 0), 0);
        RumourRent u = Check.onDay(9999);
        Check.read(u, "believes day-9999+50;rent purse-9999+50;");
        u.by(0);
        u.rumour(0, 999);
        for (int i = 0; i < 9; i++) u.gift(0, 999);
        u.gift(0, 9);
        s.takes("day 9999", u.believes(0, 0), 50);
        s.takes("a purse of 9999", u.rent(0, 0), 50);
        RumourRent v = ruledBy("believes day;rent purse+1;");
        v.rumour(0, 0);
        s.takes("day 0", v.believes(0, 0), 0);
        s.takes("a purse of 0", v.rent(0, 0), 1);
    }

    private static void namesOfBelieves() {
        Sentence s = Sentence.of(19, "free (ROOMS of the HOUSE less what it keeps) in believes;");
        RumourRent t = ruledBy("believes free;");
        Check.rumours(t, 4);
        t.rooms(7, 4);
        for (int kept = 0; kept < 4; kept++) {
            s.takes((4 - kept) + " free", t.believes(7, 0), 4 - kept);
            t.tell(7, kept);
        }
        s.takes("none free", t.believes(7, 0), 0);
        t.rooms(7, 3);
        s.takes("one more kept than there are rooms", t.believes(7, 0), -1);
        t.rooms(7, 0);
        s.takes("four kept in no room", t.believes(7, 0), -4);
        s.takes("another house", t.believes(6, 0), 2);
    }

    private static void namesOfRent() {
        Sentence s = Sentence.of(20, "all (how many HOUSES keep it), income (of the HOUSE) in rent.");
        RumourRent t = ruledBy("rent all;");
        Check.rumours(t, 2);
        for (int kept = 0; kept < 8; kept++) {
            s.takes("all of " + kept, t.rent(0, 1), kept);
            t.tell(kept, 1);
        }
        s.takes("all of eight", t.rent(0, 1), 8);
        s.leaves("those who keep another one", t.rent(0, 0), 0);
        RumourRent u = ruledBy("rent 99;");
        Check.read(u, "rent income-9999+50;");
        Check.read(u, "rent income+1;");
        u.rumour(0, 999);
        for (int i = 0; i < 9; i++) u.gift(0, 999);
        u.gift(0, 9);
        u.tell(0, 0);
        u.day(60);
        u.day(41);
        u.by(1);
        s.takes("an income of 9999", u.rent(0, 0), 50);
        u.by(2);
        s.takes("an income of 0", u.rent(1, 0), 1);
    }
}
