/** Promises 5 to 8, and what TEXTS say (part II): tokens, clauses, faults, values. */
public final class TextTest {
    private static final int LOW = Integer.MIN_VALUE;
    private static final int HIGH = Integer.MAX_VALUE;

    public static void main(String[] args) {
        feed();
        end();
        text();
        fault();
        tokens();
        clausesCantStand();
        numbers();
        openAroundOneAnother();
        secondTime();
        names();
        tooManyClauses();
        values();
        limits();
        asks();
        valuesOfNames();
        Check.finish("TextTest");
    }

    private static void feed() {
        RumourRent t = new RumourRent();
        for (int i = 1; i <= 15; i++) Check.due("5 more", t.feed(1, 2, 3, 4, 5), 20 * i);
        Check.due("5 beyond", t.feed(1, 2, 3, 4, 5), -1);
        Check.due("5 none came", t.about(8), 300);
        t.end(281);
        Check.due("5 beyond by one", t.feed(1, 2, 3, 4, 5), -1);
        Check.due("5 none came then", t.about(8), 281);
        t.end(280);
        Check.due("5 just as many", t.feed(1, 2, 3, 4, 5), 300);
        t.end(0);
        // "day 1;" and blanks: the highest byte of a is the first.
        Check.due("5 one", t.feed(0x64617920, 0x313b2020, 0x20202020, 0x20202020, 0x20202020), 20);
        Check.due("5 in its order", t.text(), 0);
        // Bytes above 127 are as they are.
        t.feed(0xff202020, 0x20202020, 0x20202020, 0x20202020, 0x20202020);
        Check.due("5 no token", t.text(), -1);
        Check.due("5 its place", t.fault(1), 0);
        t.feed(0x20202020, 0x20202020, 0x20202020, 0x20202020, 0x202020ff);
        t.text();
        Check.due("5 the lowest of e is the last", t.fault(1), 19);
    }

    private static void end() {
        RumourRent t = new RumourRent();
        Check.due("6 none", t.end(0), 0);
        Check.due("6 not so many", t.end(1), -1);
        t.feed(0x64617920, 0x313b6461, 0x7920323b, 0, 0);
        Check.due("6 not so many", t.end(21), -1);
        Check.due("6 below 0", t.end(-1), -1);
        Check.due("6 below", t.end(LOW), -1);
        Check.due("6 above", t.end(HIGH), -1);
        Check.due("6 nothing is done", t.about(8), 20);
        Check.due("6 all", t.end(20), 20);
        Check.due("6 twelve", t.end(12), 12);
        Check.due("6 no more", t.end(13), -1);
        Check.due("6 the first ones", t.text(), 0);
    }

    private static void text() {
        RumourRent t = new RumourRent();
        Check.due("7 an empty one", t.text(), 0);
        Check.due("7 with a fault", Check.read(t, "day"), -1);
        Check.due("7 empty then", t.about(8), 0);
        Check.due("7 second", Check.read(t, "rent 1;"), 1);
        Check.due("7 empty then", t.about(8), 0);
        Check.due("7 third", Check.read(t, " \n"), 2);
        Check.due("7 fourth", Check.read(t, "day 1;day 60;"), 3);
        Check.put(t, "day");
        Check.due("7 fifth", t.text(), -1);
        Check.due("7 the tape stays", t.about(8), 3);
        Check.due("7 and isn't read", t.fault(0), 0);
        Check.due("7 four", t.about(2), 4);
        StringBuilder longest = new StringBuilder("rent 1");
        while (longest.length() < 298) longest.append("+1");
        RumourRent u = new RumourRent();
        Check.due("7 as long as can be", Check.read(u, longest.append(" ;").toString()), 0);
        u.rumour(0, 1);
        u.by(0);
        Check.due("7 all of it", u.rent(0, 0), 99);
    }

    private static void fault() {
        RumourRent t = new RumourRent();
        Check.due("8 ahead of any", t.fault(0), -1);
        Check.due("8 ahead of any", t.fault(1), -1);
        Check.read(t, "rent 1; ?");
        Check.due("8 what", t.fault(0), 1);
        Check.due("8 where", t.fault(1), 8);
        for (int w : new int[] {-1, 2, LOW, HIGH}) Check.due("8 others", t.fault(w), -1);
        Check.read(t, "rent 1;");
        Check.due("8 without", t.fault(0), 0);
        Check.due("8 no place", t.fault(1), -1);
        for (int w : new int[] {-1, 2}) Check.due("8 others", t.fault(w), -1);
    }

    private static void fine(String text) {
        faulty(text, 0, -1);
    }

    private static void faulty(String text, int fault, int place) {
        RumourRent t = new RumourRent();
        Check.due("7 \"" + text + "\"", Check.read(t, text), fault == 0 ? 0 : -1);
        Check.due("8 fault of \"" + text + "\"", t.fault(0), fault);
        Check.due("8 place in \"" + text + "\"", t.fault(1), place);
    }

    private static void tokens() {
        fine("rent day+house*number/truth-purse;");
        fine("rent\n1\n;\n");
        fine("day1;");
        fine("road0to1;rooms4at7;tell7of3;hush7of3;");
        fine("rumour0purse999;rumour1purse0;");
        fine("day 0060;");
        fine("rent if 1<=2 then 1 else 2 end;");
        fine("rent if 1<2 or 1>2 or 1>=2 or 1=2 or 1#2 then 1 else 2 end;");
        faulty("rent if 1< =2 then 1 else 2 end;", 1, 11);
        faulty("rent if 1=<2 then 1 else 2 end;", 1, 10);
        faulty("rent if 1<>2 then 1 else 2 end;", 1, 10);
        faulty("rent if 1==2 then 1 else 2 end;", 1, 10);
        faulty("rent 1;\t", 1, 7);
        faulty("rent 1;\r", 1, 7);
        faulty("rent 1;\0", 1, 7);
        faulty("rent 1!;", 1, 6);
        faulty("Rent 1;", 1, 0);
        faulty("rents 1;", 1, 0);
        for (String more : new String[] {"a", "z", "A", "Z"}) faulty("day 1;rent" + more + " 1;", 1, 6);
        for (String more : new String[] {"0", "9"}) fine("day 1" + more + ";");
        faulty("ren 1;", 1, 0);
        faulty("rentday;", 1, 0);
        faulty("believesit 1;", 1, 0);
        faulty("believe 1;", 1, 0);
        faulty("rent foo;", 1, 5);
        faulty("rent Day;", 1, 5);
        faulty("rent incomeofit;", 1, 5);
        faulty("rent 1x;", 1, 6);
        faulty("rent x1;", 1, 5);
        faulty("rent 1,2;", 1, 6);
        faulty("rent [1];", 1, 5);
        faulty("rent @1;", 1, 5);
        faulty("rent `;", 1, 5);
        faulty("rent {1};", 1, 5);
        faulty("rent 1:", 1, 6);
    }

    private static void clausesCantStand() {
        faulty(";", 1, 0);
        faulty("1;", 1, 0);
        faulty("rent", 1, 4);
        faulty("rent  ", 1, 6);
        faulty("rent ;", 1, 5);
        faulty("rent 1", 1, 6);
        faulty("rent 1+;", 1, 7);
        faulty("rent +1;", 1, 5);
        faulty("rent 1 2;", 1, 7);
        faulty("rent (1;", 1, 7);
        faulty("rent 1);", 1, 6);
        faulty("rent ();", 1, 6);
        faulty("rent 1;;", 1, 7);
        faulty("rent 1<=", 1, 6);
        faulty("rent 1>=", 1, 6);
        faulty("rent if 1;2 then 1 else 2 end;", 1, 9);
        faulty("rent if 1+2 then 1 else 2 end;", 1, 12);
        faulty("rent rent;", 1, 5);
        faulty("rent 1 day;", 1, 7);
        faulty("rent mean 1 2;", 1, 12);
        faulty("rent mean 1+1 of 2;", 1, 11);
        faulty("rent if 1<2 then 1 end;", 1, 19);
        faulty("rent if 1<2 then 1 else 2;", 1, 25);
        faulty("rent if 1<2 1 else 2 end;", 1, 12);
        faulty("rent if (1<2) then 1 else 2 end;", 1, 10);
        faulty("rent if 1<2<3 then 1 else 2 end;", 1, 11);
        faulty("rent if 1<2 and then 1 else 2 end;", 1, 16);
        faulty("rent if 1<2 not 1<2 then 1 else 2 end;", 1, 12);
        faulty("rent if not 1 then 1 else 2 end;", 1, 14);
        faulty("rent not 1<2;", 1, 5);
        faulty("rent 1 or 2;", 1, 7);
        faulty("rent end;", 1, 5);
        faulty("rent to;", 1, 5);
        faulty("rent road;", 1, 5);
        faulty("road 0 of 1;", 1, 7);
        faulty("road 0 1;", 1, 7);
        faulty("road house to 1;", 1, 5);
        faulty("road -1 to 1;", 1, 5);
        faulty("road 0 to 1", 1, 11);
        faulty("road 0 to 1 2;", 1, 12);
        faulty("rumour 0 to 1;", 1, 9);
        faulty("rooms 1 of 1;", 1, 8);
        faulty("tell 1 to 1;", 1, 7);
        faulty("hush 1 at 1;", 1, 7);
        faulty("day 1 to 2;", 1, 6);
        faulty("day;", 1, 3);
        faulty("purse 1;", 1, 0);
        faulty("house 1;", 1, 0);
        // Of one token the least: a number where none can stand, however great.
        faulty("99999 ;", 1, 0);
        faulty("day 1 99999;", 1, 6);
        faulty("rent 1 ((((((((((;", 1, 7);
        faulty("rent 1 free;", 1, 7);
        // The first token, not the least fault.
        faulty("rent 10000 2;", 2, 5);
        faulty("rent free free;", 5, 5);
    }

    private static void numbers() {
        fine("rent 9999;");
        fine("rent 00000000000000000000009999;");
        faulty("rent 10000;", 2, 5);
        faulty("rent 1+99999999999999999999999;", 2, 7);
        faulty("rent 4294967296;", 2, 5);
        fine("road 7 to 7;");
        faulty("road 8 to 0;", 2, 5);
        faulty("road 0 to 8;", 2, 10);
        faulty("road 0 to 4294967297;", 2, 10);
        fine("rumour 1 purse 999;");
        faulty("rumour 2 purse 0;", 2, 7);
        faulty("rumour 1 purse 1000;", 2, 15);
        fine("rooms 4 at 7;");
        faulty("rooms 5 at 0;", 2, 6);
        faulty("rooms 0 at 8;", 2, 11);
        fine("tell 7 of 3;");
        faulty("tell 8 of 0;", 2, 5);
        faulty("tell 0 of 4;", 2, 10);
        fine("hush 7 of 3;");
        faulty("hush 8 of 0;", 2, 5);
        faulty("hush 0 of 4;", 2, 10);
        fine("day 1;day 60;");
        faulty("day 0;", 2, 4);
        faulty("day 61;", 2, 4);
    }

    private static void openAroundOneAnother() {
        fine("rent ((((((((1))))))));");
        faulty("rent (((((((((1)))))))));", 3, 13);
        fine("rent --------1;");
        faulty("rent ---------1;", 3, 13);
        fine("rent 1---------1;");
        faulty("rent 1----------1;", 3, 15);
        fine("rent kept kept kept kept kept kept kept kept 1;");
        faulty("rent kept kept kept kept kept kept kept kept kept 1;", 3, 45);
        fine("rent mean 1 of mean 1 of mean 1 of mean 1 of mean 1 of mean 1 of mean 1 of mean 1 of 1;");
        faulty("rent mean 1 of mean 1 of mean 1 of mean 1 of mean 1 of mean 1 of mean 1 of mean 1 of mean 1 of 1;", 3, 85);
        faulty("rent mean mean mean mean mean mean mean mean mean 1 of 1;", 3, 45);
        // The first of a mean is whole, the mean isn't: the second is inside of it too.
        fine("rent mean (((((((1))))))) of (((((((1)))))));");
        faulty("rent mean 1 of ((((((((1))))))));", 3, 22);
        faulty("rent mean ((((((((1)))))))) of 1;", 3, 17);
        // Behind one that is shut it is open no more.
        fine("rent ((((((((1))))))))+((((((((1))))))))-((((((((1))))))));");
        fine("rent ------- -1- ------- -1;");
        fine("rent if not not not not not not not 1=1 then 1 else 2 end;");
        faulty("rent if not not not not not not not not 1=1 then 1 else 2 end;", 3, 36);
        fine("rent if not not not not not not not 1=1 and not not not not not not not 1=1 then 1 else 2 end;");
        faulty("rent if not not not not not not not (1)=1 then 1 else 2 end;", 3, 36);
        faulty("rent if not not not not not not not 1=-1 then 1 else 2 end;", 3, 38);
        faulty("rent if 1=1 then ((((((((1 else 2 end;", 3, 24);
        faulty("rent if 1=1 then 1 else ((((((((1 end;", 3, 31);
        fine("rent if 1=1 then (((((((1))))))) else (((((((1))))))) end + ((((((((1))))))));");
        faulty("rent ((((((((if", 3, 13);
        fine("believes ((((((((1))))))));rent ((((((((1))))))));");
    }

    private static void secondTime() {
        faulty("rent 1;rent 1;", 4, 7);
        faulty("rent 1;believes 1;day 1;believes 1;", 4, 24);
        faulty("rent 1;rent", 4, 7);
        fine("believes 1;rent 1;");
        fine("day 1;day 1;road 0 to 1;road 0 to 1;");
    }

    private static void names() {
        for (String name : new String[] {"day", "house", "number", "truth", "purse", "near"}) {
            fine("rent " + name + ";");
            fine("believes " + name + ";");
        }
        fine("believes free;");
        fine("rent all;");
        fine("rent income;");
        faulty("rent free;", 5, 5);
        faulty("believes all;", 5, 9);
        faulty("believes income;", 5, 9);
        faulty("rent 1;believes 2+kept income;", 5, 23);
        faulty("believes free;rent if free=1 then 1 else 2 end;", 5, 22);
    }

    private static void tooManyClauses() {
        StringBuilder many = new StringBuilder();
        for (int i = 0; i < 24; i++) many.append("day 1;");
        fine(many.toString());
        fine(many + "  \n");
        faulty(many + "day 1;", 6, 144);
        faulty(many + "  day", 6, 146);
        faulty(many + "rent 1;", 6, 144);
        faulty(many + "foo", 1, 144);
        faulty(many + ";", 1, 144);
        // Of one token the least: a second rent as the 25th clause.
        faulty("rent 1;" + many.substring(6) + "rent 1;", 4, 145);
        fine("rent 1;believes 1;" + many.substring(12));
        faulty("rent 1;believes 1;" + many.substring(12) + "day 1;", 6, 150);
    }

    // The value by the law of rent of house 2 and rumour 0, moved so that it can be seen whole.
    private static void value(String sum, int due) {
        RumourRent t = new RumourRent();
        t.rumour(0, 20);
        t.tell(0, 0);
        Check.due("20 reading of " + sum, Check.read(t, "believes " + sum + ";"), 0);
        t.by(0);
        Check.due("19 " + sum, t.believes(2, 0), due);
    }

    private static void values() {
        value("1+2*3", 7);
        value("(1+2)*3", 9);
        value("10-3-2", 5);
        value("10-(3-2)", 9);
        value("90/3/5", 6);
        value("90/(15/5)", 30);
        value("7/2*2", 6);
        value("2*7/2", 7);
        value("-7/2", -3);
        value("7/-2", -3);
        value("-7/-2", 3);
        value("0-7/2", -3);
        value("5/0", 0);
        value("5/0+3", 3);
        value("-5/(1-1)", 0);
        value("-3*-3", 9);
        value("--3", 3);
        value("- - -3", -3);
        value("4--3", 7);
        value("-(1+2)", -3);
        value("mean 4 of 7", 5);
        value("mean -4 of -7", -5);
        value("mean -4 of 3", 0);
        value("mean 4 of 8+1", 7);
        value("mean 4 of 8*2", 12);
        value("mean mean 2 of 4 of 9", 6);
        value("mean 2 of mean 4 of 8", 4);
        value("mean -1 of 6", 2);
        value("-mean 3 of 4", -3);
        value("kept 0", 1);
        value("kept 1", 0);
        value("kept 8", 0);
        value("kept -1", 0);
        value("kept 9999", 0);
        value("kept 0+5", 6);
        value("kept (2-2)", 1);
        value("kept kept 1", 1);
        value("kept -kept 1", 1);
    }

    private static void limits() {
        value("9999*9999/5000/4", 50);
        value("9999*9999/9999", 99);
        value("9999*9999-9999*100", 99);
        value("(9999*9999-999*1000)/100", 10);
        value("9999*9999+9999-9999*100-60", 40);
        value("-9999*9999/5000/4", -50);
        value("-9999*9999-9999+9999*100+60", -40);
        value("9999*100+9999-9999*100-60", 40);
        // The half of the sum is one step: what is cut is the half.
        value("mean (9999*9999) of (9999*9999)/5000/4", 50);
        value("mean (9999*9999) of 0/5000/2", 50);
    }

    private static void asks() {
        value("if 1<2 then 3 else 4 end", 3);
        value("if 2<2 then 3 else 4 end", 4);
        value("if 2<=2 then 3 else 4 end", 3);
        value("if 3<=2 then 3 else 4 end", 4);
        value("if 3>2 then 3 else 4 end", 3);
        value("if 2>2 then 3 else 4 end", 4);
        value("if 2>=2 then 3 else 4 end", 3);
        value("if 1>=2 then 3 else 4 end", 4);
        value("if 2=2 then 3 else 4 end", 3);
        value("if 2=1 then 3 else 4 end", 4);
        value("if 2#2 then 3 else 4 end", 4);
        value("if 2#1 then 3 else 4 end", 3);
        value("if not 2=2 then 3 else 4 end", 4);
        value("if not not 2=2 then 3 else 4 end", 3);
        value("if 1=1 or 1=2 and 1=2 then 3 else 4 end", 3);
        value("if 1=2 and 1=2 or 1=1 then 3 else 4 end", 3);
        value("if 1=2 or 1=1 and 1=2 then 3 else 4 end", 4);
        value("if not 1=2 and 1=1 then 3 else 4 end", 3);
        value("if not 1=1 or 1=1 then 3 else 4 end", 3);
        value("if not 1=1 and 1=2 then 3 else 4 end", 4);
        value("if 1+1=4/2 then 3 else 4 end", 3);
        value("if 1=1 then 3 else 4 end*2+1", 7);
        value("2*if 1=2 then 3 else 4 end+1", 9);
        value("if 1=1 then if 1=2 then 5 else 6 end else 7 end", 6);
        value("if 1=2 then 5 else if 1=2 then 6 else 7 end+1 end", 8);
        value("if if 1=2 then 5 else 6 end=6 then 8 else 9 end", 8);
        value("1+if 1=1 then 2+3 else 10 end-if 1=2 then 50 else 4 end", 2);
        value("if -1<0 and 0-1<1 or 5<4 then 8 else 9 end", 8);
    }

    private static void valuesOfNames() {
        RumourRent t = Check.withRoads(2, 0, 2, 1, 2, 4);
        t.rumour(0, 500);
        t.rumour(1, 600);
        t.tell(0, 1);
        t.tell(4, 1);
        t.tell(5, 1);
        t.day(1);
        t.tell(2, 0);
        t.tell(2, 1);
        Check.read(t, "believes house*10+number+truth*2;rent all*10+near;");
        Check.read(t, "believes free;rent income;");
        Check.read(t, "believes day;rent purse/10;");
        Check.read(t, "believes near;rent day*10+kept house;");
        t.by(0);
        Check.due("19 house, number, truth", t.believes(2, 1), 23);
        Check.due("19 of an untrue one", t.believes(7, 0), 70);
        Check.due("20 all, near", t.rent(2, 1), 42);
        Check.due("20 of another house", t.rent(0, 1), 41);
        t.by(1);
        Check.due("19 free", t.believes(2, 1), 0);
        Check.due("19 free", t.believes(0, 0), 1);
        Check.due("20 income", t.rent(0, 0), 6);
        t.rooms(2, 1);
        Check.due("19 free below 0", t.believes(2, 0), -1);
        t.by(2);
        Check.due("19 day", t.believes(0, 0), 1);
        Check.due("20 purse", t.rent(0, 1), 58);
        t.by(3);
        Check.due("19 near", t.believes(2, 1), 2);
        Check.due("20 kept", t.rent(2, 1), 12);
    }
}
