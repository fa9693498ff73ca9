/** Bounds of tokens, clauses and faults, as promises 7 and 8 tell them: part II. */
final class BoundsOfFaults {
    private BoundsOfFaults() { }

    static void all() {
        blanks();
        letters();
        digits();
        signs();
        clausesAtMost();
        lawsOnce();
        clauseForms();
        lawForms();
        firstAndLeast();
        places();
        cannotStand();
        numbersAboveAll();
        numbersOfClauses();
        openers();
        openTogether();
        openTillWhole();
        secondTime();
        namesOfClauses();
        clauseTooMany();
    }

    private static void reads(Sentence s, String text) {
        RumourRent t = new RumourRent();
        s.takes("\"" + text + "\"", Check.read(t, text), 0);
        s.takes("no fault in \"" + text + "\"", t.fault(0), 0);
        s.takes("no place in \"" + text + "\"", t.fault(1), -1);
    }

    private static void refuses(Sentence s, String text, int fault, int place) {
        RumourRent t = new RumourRent();
        s.leaves("\"" + text + "\"", Check.read(t, text), -1);
        s.leaves("the fault of \"" + text + "\"", t.fault(0), fault);
        s.leaves("the place in \"" + text + "\"", t.fault(1), place);
        s.leaves("a text \"" + text + "\"", t.about(2), 0);
    }

    private static void blanks() {
        Sentence s = Sentence.of(7, "TOKENS, blanks (32, 10) aside");
        reads(s, " \n rent \n 1 \n ; \n ");
        reads(s, "rent 1;");
        reads(s, "rent\n1;");
        reads(s, " ");
        for (int sign = 0; sign < 256; sign++) {
            boolean stands = sign == ' ' || sign == '\n';
            if (stands) {
                reads(s, "day 1" + (char) sign + ";");
            } else if (sign != ';' && (sign < '0' || sign > '9')) {
                refuses(s, "day 1" + (char) sign + ";", 1, 5);
            }
        }
        refuses(s, "da y 1;", 1, 0);
        refuses(s, "day 1 1;", 1, 6);
    }

    // A sign that isn't one of a word's ends it: then the fault is at the sign, not at the word.
    private static void letters() {
        Sentence s = Sentence.of(7, "letters a .. z, A .. Z one behind the other (one TOKEN)");
        reads(s, "rent purse;");
        for (char sign : new char[] {'a', 'z', 'A', 'Z'}) refuses(s, "rent" + sign + " 1;", 1, 0);
        for (char sign : new char[] {'`', '{', '@', '['}) refuses(s, "rent" + sign + " 1;", 1, 4);
        for (char sign : new char[] {'a', 'z', 'A', 'Z'}) refuses(s, "rent 1+" + sign + ";", 1, 7);
        reads(s, "day1;");
        refuses(s, "dayday 1;", 1, 0);
        refuses(s, "Day 1;", 1, 0);
        refuses(s, "DAY 1;", 1, 0);
        refuses(s, "believe 1;", 1, 0);
        reads(s, "believes 1;");
        refuses(s, "believess 1;", 1, 0);
    }

    private static void digits() {
        Sentence s = Sentence.of(7, "digits likewise (NUMBERS, 0 .. 9999)");
        reads(s, "rent 0;");
        reads(s, "rent 9;");
        reads(s, "rent 9999;");
        reads(s, "rent 09999;");
        refuses(s, "rent 10000;", 2, 5);
        refuses(s, "rent 010000;", 2, 5);
        refuses(s, "rent 1:1;", 1, 6);
        reads(s, "rent 1/1;");
        refuses(s, "rent 1 1;", 1, 7);
        refuses(s, "rent 1a;", 1, 6);
        RumourRent t = new RumourRent();
        t.rumour(0, 0);
        Check.read(t, "rent 0012-9999+9999;");
        t.by(0);
        s.takes("what 0012 and 9999 are", t.rent(0, 0), 12);
    }

    private static void signs() {
        Sentence s = Sentence.of(7, "<= >= < > = # + - * / ( ) ; (the longest)");
        for (String sign : new String[] {"<=", ">=", "<", ">", "=", "#"}) {
            reads(s, "rent if 1" + sign + "2 then 1 else 2 end;");
        }
        for (String sign : new String[] {"+", "-", "*", "/"}) reads(s, "rent (1)" + sign + "(2);");
        // Parted, or the other way about, they are two tokens.
        refuses(s, "rent if 1< =2 then 1 else 2 end;", 1, 11);
        refuses(s, "rent if 1> =2 then 1 else 2 end;", 1, 11);
        refuses(s, "rent if 1=<2 then 1 else 2 end;", 1, 10);
        refuses(s, "rent if 1=>2 then 1 else 2 end;", 1, 10);
        refuses(s, "rent if 1<>2 then 1 else 2 end;", 1, 10);
        refuses(s, "rent if 1<==2 then 1 else 2 end;", 1, 11);
        refuses(s, "rent if 1##2 then 1 else 2 end;", 1, 10);
        // What it begins with is its place, though it is longer.
        refuses(s, "rent 1<=1;", 1, 6);
        for (String sign : new String[] {"!", "%", "&", "'", ",", ".", ":", "?", "\\", "]", "^", "_", "|", "}", "~"}) {
            refuses(s, "rent 1" + sign + "1;", 1, 6);
        }
    }

    private static String times(int count, String text) {
        return text.repeat(count);
    }

    private static void clausesAtMost() {
        Sentence s = Sentence.of(7, "{CLAUSE}, 24 at most:");
        reads(s, "");
        reads(s, times(1, "day 1;"));
        reads(s, times(24, "day 1;"));
        refuses(s, times(25, "day 1;"), 6, 144);
        reads(s, times(22, "day 1;") + "rent 1;believes 1;");
        refuses(s, times(23, "day 1;") + "rent 1;believes 1;", 6, 145);
    }

    private static void lawsOnce() {
        Sentence s = Sentence.of(7, "believes SUM ; or rent SUM ; (each once)");
        reads(s, "believes 1;rent 2;");
        reads(s, "rent 2;day 1;believes 1;");
        refuses(s, "rent 2;rent 2;", 4, 7);
        refuses(s, "believes 2;believes 2;", 4, 11);
        refuses(s, "rent;", 1, 4);
        refuses(s, "rent 1", 1, 6);
        refuses(s, "believes ;", 1, 9);
    }

    private static void clauseForms() {
        Sentence s = Sentence.of(7, "or road NUMBER to NUMBER ; or rumour NUMBER purse NUMBER ; (truth) or rooms NUMBER at NUMBER ; or tell NUMBER of NUMBER ; or hush NUMBER of NUMBER ; (HOUSE, RUMOUR) or day NUMBER ;.");
        String[] whole = {"road 0 to 1 ;", "rumour 0 purse 1 ;", "rooms 0 at 1 ;", "tell 0 of 1 ;", "hush 0 of 1 ;", "day 1 ;"};
        for (String clause : whole) {
            reads(s, clause);
            String[] words = clause.split(" ");
            for (int cut = 1; cut < words.length; cut++) cutShort(s, words, cut);
        }
        refuses(s, "road 0 at 1;", 1, 7);
        refuses(s, "rumour 0 of 1;", 1, 9);
        refuses(s, "rooms 0 to 1;", 1, 8);
        refuses(s, "tell 0 at 1;", 1, 7);
        refuses(s, "hush 0 purse 1;", 1, 7);
        refuses(s, "day 1 of 1;", 1, 6);
        refuses(s, "day -1;", 1, 4);
        refuses(s, "day (1);", 1, 4);
        RumourRent t = new RumourRent();
        Check.read(t, "rumour 1 purse 5;rooms 3 at 6;tell 6 of 0;");
        s.takes("truth ahead of the purse, rooms ahead of the house, the house ahead of the rumour", t.played(0), -1);
        s.takes("truth", t.ofRumour(0, 0), 1);
        s.takes("the purse", t.ofRumour(0, 1), 5);
        s.takes("rooms", t.of(6, 0), 3);
        s.takes("the house", t.of(6, 1), 1);
    }

    // Ended too early, a clause has its fault at the end; without that word, at the next one.
    private static void cutShort(Sentence s, String[] words, int cut) {
        StringBuilder start = new StringBuilder();
        for (int i = 0; i < cut; i++) start.append(words[i]).append(' ');
        refuses(s, start.toString(), 1, start.length());
        if (cut + 1 < words.length) refuses(s, start + words[cut + 1] + ";", 1, start.length());
    }

    private static void lawForms() {
        Sentence s = Sentence.of(7, "SUM: PRODUCT {+ or - PRODUCT}. PRODUCT: ONE {* or / ONE}.");
        reads(s, "rent 1*2/3+4-5;");
        reads(s, "rent mean 1 of 2+kept 3*-4;");
        for (String sum : new String[] {"1+", "1*", "(", "-", "mean", "kept", "1+-", "mean 1 of", "if", "if not", "if 1<"}) {
            refuses(s, "rent " + sum + ";", 1, 5 + sum.length());
        }
        refuses(s, "rent *1;", 1, 5);
        refuses(s, "rent +1;", 1, 5);
        refuses(s, "rent 1++1;", 1, 7);
        refuses(s, "rent (1;", 1, 7);
        refuses(s, "rent 1);", 1, 6);
        refuses(s, "rent ();", 1, 6);
        refuses(s, "rent mean 1;", 1, 11);
        refuses(s, "rent mean 1+1 of 1;", 1, 11);
        refuses(s, "rent if 1 then 1 else 1 end;", 1, 10);
        refuses(s, "rent if 1=1 else 1 end;", 1, 12);
        refuses(s, "rent if 1=1 then 1 end;", 1, 19);
        refuses(s, "rent if 1=1 then 1 else 1;", 1, 25);
        refuses(s, "rent if (1=1) then 1 else 1 end;", 1, 10);
        refuses(s, "rent if 1=1=1 then 1 else 1 end;", 1, 11);
        refuses(s, "rent if 1=1 or then 1 else 1 end;", 1, 15);
        refuses(s, "rent if not 1 then 1 else 1 end;", 1, 14);
        refuses(s, "rent 1=1;", 1, 6);
        refuses(s, "rent not 1=1;", 1, 5);
    }

    private static void firstAndLeast() {
        Sentence s = Sentence.of(8, "FAULTS, the first as TOKENS are come to, at the TOKEN's first byte (of the end at the length), of one the least");
        reads(s, "rent 1;");
        // Of two tokens the first, whatever the faults.
        refuses(s, "rent 10000 ?;", 2, 5);
        refuses(s, "rent free+10000;", 5, 5);
        refuses(s, "rent 10000+free;", 2, 5);
        refuses(s, "rent 1;rent ?;", 4, 7);
        refuses(s, "rent (((((((((?", 3, 13);
        refuses(s, times(24, "day 1;") + "day ?;", 6, 144);
        // Of one token the least: what can't stand there at all, ahead of all others.
        refuses(s, "rent 1 10000;", 1, 7);
        refuses(s, "day 1;10000;", 1, 6);
        refuses(s, "rent 1 free;", 1, 7);
        refuses(s, "rent ((((((((1 (;", 1, 15);
        refuses(s, "rent rent;", 1, 5);
        refuses(s, times(24, "day 1;") + ";", 1, 144);
        refuses(s, times(24, "day 1;") + "free;", 1, 144);
        // A second law (4) that is the 25th clause (6).
        refuses(s, "rent 1;" + times(23, "day 1;") + "rent 1;", 4, 145);
        refuses(s, "believes 1;" + times(23, "day 1;") + "believes 1;", 4, 149);
        refuses(s, "believes 1;" + times(23, "day 1;") + "rent 1;", 6, 149);
    }

    private static void places() {
        Sentence s = Sentence.of(8, "at the TOKEN's first byte (of the end at the length)");
        reads(s, "day 1; ");
        refuses(s, "  ?", 1, 2);
        refuses(s, "day 1; days 1;", 1, 7);
        refuses(s, "day  61;", 2, 5);
        refuses(s, "day", 1, 3);
        refuses(s, "day \n ", 1, 6);
        refuses(s, "rent 1+" + times(293, " "), 1, 300);
        refuses(s, times(299, " ") + "?", 1, 299);
        refuses(s, "?" + times(299, " "), 1, 0);
    }

    private static void cannotStand() {
        Sentence s = Sentence.of(8, "1 it can't stand there, or is none.");
        reads(s, "rent day;");
        refuses(s, "rent dya;", 1, 5);
        refuses(s, "rent road;", 1, 5);
        refuses(s, "road 0 to day;", 1, 10);
        refuses(s, "house 1;", 1, 0);
        refuses(s, "to 1;", 1, 0);
        refuses(s, ";", 1, 0);
        refuses(s, "day 1;;", 1, 6);
        refuses(s, "\t", 1, 0);
        refuses(s, "" + (char) 255, 1, 0);
        refuses(s, "" + (char) 0, 1, 0);
    }

    private static void numbersAboveAll() {
        Sentence s = Sentence.of(8, "2 a NUMBER that isn't one of those told (above 9999;");
        for (int n : new int[] {0, 1, 999, 1000, 9998, 9999}) reads(s, "rent " + n + ";");
        reads(s, "rent " + times(280, "0") + "9999;");
        for (String n : new String[] {"10000", "99999", "65536", "2147483647", "2147483648", "4294967296", "4294967297",
            "9223372036854775808", "18446744073709551617", times(290, "9")}) {
            refuses(s, "rent " + n + ";", 2, 5);
        }
        refuses(s, "believes if 1=10000 then 1 else 2 end;", 2, 14);
    }

    private static void numbersOfClauses() {
        Sentence s = Sentence.of(8, "HOUSES 0 .. 7, truth 0, 1, of purse 0 .. 999, ROOMS 0 .. 4, RUMOURS 0 .. 3, DAYS 1 .. 60).");
        bounded(s, "road ", " to 0;", 0, 7);
        bounded(s, "road 0 to ", ";", 0, 7);
        bounded(s, "rumour ", " purse 0;", 0, 1);
        bounded(s, "rumour 0 purse ", ";", 0, 999);
        bounded(s, "rooms ", " at 0;", 0, 4);
        bounded(s, "rooms 0 at ", ";", 0, 7);
        bounded(s, "tell ", " of 0;", 0, 7);
        bounded(s, "tell 0 of ", ";", 0, 3);
        bounded(s, "hush ", " of 0;", 0, 7);
        bounded(s, "hush 0 of ", ";", 0, 3);
        bounded(s, "day ", ";", 1, 60);
        refuses(s, "day 0;", 2, 4);
        // Houses that are alike are told by numbers that are fine.
        reads(s, "road 3 to 3;");
    }

    private static void bounded(Sentence s, String ahead, String behind, int least, int most) {
        reads(s, ahead + least + behind);
        reads(s, ahead + most + behind);
        refuses(s, ahead + (most + 1) + behind, 2, ahead.length());
        refuses(s, ahead + 9999 + behind, 2, ahead.length());
        refuses(s, ahead + 10000 + behind, 2, ahead.length());
        refuses(s, ahead + 4294967296L + behind, 2, ahead.length());
    }

    private static void openers() {
        Sentence s = Sentence.of(8, "3 the 9th of ( not mean kept if and - (of one ONE) that are open around one another (at it;");
        reads(s, "rent " + times(8, "(") + "1" + times(8, ")") + ";");
        refuses(s, "rent " + times(9, "(") + "1" + times(9, ")") + ";", 3, 13);
        reads(s, "rent " + times(8, "-") + "1;");
        refuses(s, "rent " + times(9, "-") + "1;", 3, 13);
        reads(s, "rent " + times(8, "kept ") + "1;");
        refuses(s, "rent " + times(9, "kept ") + "1;", 3, 45);
        reads(s, "rent " + times(8, "mean ") + "1" + times(8, " of 1") + ";");
        refuses(s, "rent " + times(9, "mean ") + "1" + times(9, " of 1") + ";", 3, 45);
        reads(s, "rent " + times(8, "mean 1 of ") + "1;");
        refuses(s, "rent " + times(9, "mean 1 of ") + "1;", 3, 85);
        reads(s, "rent if " + times(7, "not ") + "1=1 then 1 else 1 end;");
        refuses(s, "rent if " + times(8, "not ") + "1=1 then 1 else 1 end;", 3, 36);
        reads(s, nestedChoices(8));
        refuses(s, nestedChoices(9), 3, 5 + 8 * 12);
        // A minus between two products is none of them; one behind it is.
        reads(s, "rent 1-" + times(8, "-") + "1;");
        refuses(s, "rent 1-" + times(9, "-") + "1;", 3, 15);
        reads(s, "rent " + times(8, "(") + "1-1-1" + times(8, ")") + ";");
    }

    private static String nestedChoices(int count) {
        return "rent " + times(count, "if 1=1 then ") + "1" + times(count, " else 1 end") + ";";
    }

    // Each kind as the ninth around others, and as the first around eight.
    private static void openTogether() {
        Sentence s = Sentence.of(8, "that are open around one another");
        String seven = "rent " + times(7, "(");
        for (String opener : new String[] {"(", "-", "kept ", "mean ", "if "}) {
            refuses(s, seven + "(" + opener, 3, 13);
            refuses(s, "rent " + opener + times(8, "("), 3, 5 + opener.length() + 7);
            RumourRent t = new RumourRent();
            Check.read(t, seven + opener);
            s.takes("the eighth being \"" + opener + "\": the fault is that of the end", t.fault(0), 1);
        }
        refuses(s, seven + "if not 1=1", 3, 15);
        refuses(s, seven + "if (1)=1", 3, 15);
        refuses(s, seven + "if 1=(1)", 3, 17);
        refuses(s, seven + "if 1=1 then (1", 3, 24);
        refuses(s, seven + "if 1=1 then 1 else (1", 3, 31);
        reads(s, "rent ((((((if 1=(1) then (2) else (3) end))))));");
    }

    private static void openTillWhole() {
        Sentence s = Sentence.of(8, "mean till its second is whole).");
        reads(s, "rent mean " + times(7, "(") + "1" + times(7, ")") + " of " + times(7, "(") + "1" + times(7, ")") + ";");
        refuses(s, "rent mean " + times(8, "("), 3, 17);
        refuses(s, "rent mean 1 of " + times(8, "("), 3, 22);
        reads(s, "rent mean 1 of 1+" + times(8, "(") + "1" + times(8, ")") + ";");
        // Each kind, when it is whole, counts no more for what comes behind it.
        String eight = times(8, "(") + "1" + times(8, ")") + ";";
        for (String whole : new String[] {"(1)", "-1", "kept 1", "mean 1 of 1", "if not 1=1 then 1 else 1 end"}) {
            reads(s, "rent " + whole + "+" + eight);
            reads(s, "rent " + whole + "*" + eight);
        }
        reads(s, "rent if not 1=1 and " + times(7, "not ") + "1=1 or " + times(7, "not ") + "1=1 then 1 else 1 end;");
        refuses(s, "rent if not " + times(7, "(") + "1", 3, 18);
        reads(s, "rent if not 1=1 and " + times(7, "(") + "1" + times(7, ")") + "=1 then 1 else 1 end;");
        reads(s, "believes " + eight + "rent " + eight);
    }

    private static void secondTime() {
        Sentence s = Sentence.of(8, "4 believes, rent for the second time (at it).");
        reads(s, "rent 1;believes 1;");
        refuses(s, "rent 1; rent 1;", 4, 8);
        refuses(s, "rent 1;believes 1;rent 1;", 4, 18);
        refuses(s, "rent 1;believes 1;believes 1;", 4, 18);
        refuses(s, "rent 1;rent", 4, 7);
        reads(s, "day 1;day 1;road 0 to 1;road 0 to 1;tell 0 of 0;tell 0 of 0;");
        // A text that isn't one leaves nothing behind for the next.
        RumourRent t = new RumourRent();
        Check.read(t, "rent 1;rent 1;");
        s.takes("the first of the next text", Check.read(t, "rent 1;"), 0);
        RumourRent u = new RumourRent();
        u.rumour(0, 0);
        for (int i = 0; i < 4; i++) Check.read(u, "day 9;believes 0;rent 1" + times(100, "+1") + ";?");
        s.takes("a text behind some that weren't", Check.read(u, "rent 1" + times(100, "+1") + "-61;day 1;"), 0);
        s.takes("its clauses alone", u.played(0), -1);
        s.takes("its day alone", u.is(0), 1);
        u.by(0);
        s.takes("its law alone", u.rent(0, 0), 40);
        s.takes("no law that it hasn't", u.believes(0, 0), 1);
    }

    private static void namesOfClauses() {
        Sentence s = Sentence.of(8, "5 a NAME that isn't of that CLAUSE (at it).");
        for (String name : new String[] {"day", "house", "number", "truth", "purse", "near"}) {
            reads(s, "believes " + name + ";rent " + name + ";");
        }
        reads(s, "believes free;");
        reads(s, "rent all+income;");
        refuses(s, "rent free;", 5, 5);
        refuses(s, "believes all;", 5, 9);
        refuses(s, "believes income;", 5, 9);
        refuses(s, "believes free;rent 1+(free);", 5, 22);
        refuses(s, "rent all;believes if all=1 then 1 else 2 end;", 5, 21);
        refuses(s, "rent frees;", 1, 5);
    }

    private static void clauseTooMany() {
        Sentence s = Sentence.of(8, "6 the 25th CLAUSE (at its first TOKEN).");
        String all = times(24, "day 1;");
        reads(s, all);
        reads(s, all + " \n ");
        for (String word : new String[] {"day", "road", "rumour", "rooms", "tell", "hush", "rent", "believes"}) {
            refuses(s, all + " " + word, 6, 145);
        }
        refuses(s, all + "x", 1, 144);
        refuses(s, all + all, 6, 144);
    }
}
