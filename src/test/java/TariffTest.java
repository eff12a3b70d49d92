/** Promises 23 to 27: the tape, and the small language of the tariff with its faults. */
public final class TariffTest {
    private static final int NONE = ShadeRegister.NONE;
    private static final int REFUSED = -2000000000;
    private static final Check CHECK = new Check("TariffTest");

    public static void main(String[] args) {
        tape();
        faultAheadOfAny();
        formerStays();
        sums();
        bounds();
        names();
        asks();
        rulesInOrder();
        tokens();
        misplaced();
        unfinished();
        tooGreat();
        tooDeep();
        tooManyRules();
        leastOfOneToken();
        givesRefused();
        CHECK.end();
    }

    private static void due(String what, long got, long want) {
        CHECK.due(what, got, want);
    }

    /** Feeds a text, filled up with blanks, and cuts it to its length. */
    static void feed(ShadeRegister x, String text) {
        int had = x.about(9);
        for (int i = 0; i < text.length(); i += 20) {
            int[] words = new int[5];
            for (int j = 0; j < 20; j++) {
                int sign = i + j < text.length() ? text.charAt(i + j) : ' ';
                words[j / 4] = words[j / 4] << 8 | sign;
            }
            x.feed(words[0], words[1], words[2], words[3], words[4]);
        }
        x.end(had + text.length());
    }

    private static ShadeRegister with(String text, int rules) {
        ShadeRegister x = new ShadeRegister(4, 4);
        feed(x, text);
        due(text + " fed", x.about(9), text.length());
        due(text, x.tariff(), rules);
        due(text + ": fault", x.fault(0), 0);
        due(text + ": place", x.fault(1), NONE);
        due(text + ": rules", x.about(8), rules);
        due(text + ": tape", x.about(9), 0);
        return x;
    }

    private static void gives(String sum, long want) {
        due("give " + sum, with("give " + sum + ";", 1).gives(3, 5, 7, 2, 1, 9), want);
    }

    private static void holds(String either, boolean want) {
        String text = "when " + either + " give 1; give 2;";
        due(text, with(text, 2).gives(3, 5, 7, 2, 1, 9), want ? 1 : 2);
    }

    private static void faulty(String text, int fault, int place) {
        ShadeRegister x = new ShadeRegister(4, 4);
        feed(x, text);
        due(text, x.tariff(), NONE);
        due(text + ": fault", x.fault(0), fault);
        due(text + ": place", x.fault(1), place);
        due(text + ": rules", x.about(8), 0);
        due(text + ": tape", x.about(9), 0);
    }

    private static void tape() {
        ShadeRegister x = new ShadeRegister(4, 4);
        due("end 0", x.end(0), 0);
        due("end 1", x.end(1), NONE);
        due("end -1", x.end(-1), NONE);
        for (int i = 1; i <= 20; i++) {
            due("feed " + i, x.feed(0, 0, 0, 0, 0), 20 * i);
        }
        due("feed 21", x.feed(0, 0, 0, 0, 0), NONE);
        due("400 bytes", x.about(9), 400);
        due("end 401", x.end(401), NONE);
        due("end 381", x.end(381), 381);
        due("no room for twenty", x.feed(0, 0, 0, 0, 0), NONE);
        due("381 bytes", x.about(9), 381);
        due("end 380", x.end(380), 380);
        due("room for twenty", x.feed(0, 0, 0, 0, 0), 400);
        due("end least", x.end(Integer.MIN_VALUE), NONE);
        due("end none", x.end(0), 0);
        due("empty: no rules", x.tariff(), 0);
        due("empty: no fault", x.fault(0), 0);
        // The highest byte of the first comes first; "give 12;" in two pieces.
        due("first", x.feed(0x67697665, 0x20310000, 0, 0, 0), 20);
        due("cut", x.end(6), 6);
        due("second", x.feed(0x323b0000, 0, 0, 0, 0), 26);
        due("cut too", x.end(8), 8);
        due("of two pieces", x.tariff(), 1);
        due("gives", x.gives(0, 0, 0, 0, 0, 0), 12);
    }

    private static void faultAheadOfAny() {
        ShadeRegister x = new ShadeRegister(4, 4);
        due("fault 0 ahead of any", x.fault(0), NONE);
        due("fault 1 ahead of any", x.fault(1), NONE);
        feed(x, "give 1");
        x.tariff();
        due("fault 0", x.fault(0), 1);
        due("fault 1", x.fault(1), 6);
        due("fault 2", x.fault(2), NONE);
        due("fault -1", x.fault(-1), NONE);
        feed(x, "give 1;");
        x.tariff();
        due("fault 0 of the latest", x.fault(0), 0);
        due("fault 1 of the latest", x.fault(1), NONE);
    }

    private static void formerStays() {
        ShadeRegister x = with("give 7; give 8;", 2);
        feed(x, "give 1; give 2; give");
        due("faulty", x.tariff(), NONE);
        due("rules as before", x.about(8), 2);
        due("gives as before", x.gives(0, 0, 0, 0, 0, 0), 7);
        feed(x, "give 3;");
        due("another", x.tariff(), 1);
        due("gives anew", x.gives(0, 0, 0, 0, 0, 0), 3);
        due("empty", x.tariff(), 0);
        due("gives nothing", x.gives(0, 0, 0, 0, 0, 0), 0);
    }

    private static void sums() {
        gives("1+2*3", 7);
        gives("(1+2)*3", 9);
        gives("10-3-2", 5);
        gives("100/7/2", 7);
        gives("2*7/4", 3);
        gives("7/4*2", 2);
        gives("-7/2", -3);
        gives("7/-2", -3);
        gives("- 7 / - 2", 3);
        gives("5/0", 0);
        gives("-5/0+1", 1);
        gives("--3", 3);
        gives("2--3", 5);
        gives("-(2+3)*2", -10);
        gives("min(3,4)", 3);
        gives("max(3,4)", 4);
        gives("min(-3,4)*2", -6);
        gives("max(min(9,2+3),1*4)", 5);
        gives("0000000100000", 100000);
        gives("0", 0);
    }

    private static void bounds() {
        gives("100000*10000", 1000000000);
        gives("100000*10000+1", 1000000000);
        gives("100000*10000+1-1", 999999999);
        gives("100000*100000", 1000000000);
        gives("-100000*100000", -1000000000);
        gives("-100000*100000-1", -1000000000);
        gives("-100000*100000-1+1", -999999999);
        gives("100000*100000/10", 100000000);
        gives("100000*100000*100000*100000", 1000000000);
        gives("-100000*100000*100000*100000", -1000000000);
        gives("100000*100000+100000*100000-100000*100000", 0);
        due("of names", with("give hour*month;", 1).gives(1000000, -1000000, 0, 0, 0, 0), -1000000000);
    }

    private static void names() {
        gives("hour", 3);
        gives("month", 5);
        gives("height", 7);
        gives("many", 2);
        gives("kind", 1);
        gives("thing", 9);
        gives("day", 0);
        gives("stall", 0);
        gives("thing-hour*month", -6);
    }

    private static void asks() {
        holds("hour<3", false);
        holds("hour<4", true);
        holds("hour<=3", true);
        holds("hour<=2", false);
        holds("hour>3", false);
        holds("hour>2", true);
        holds("hour>=3", true);
        holds("hour>=4", false);
        holds("hour=3", true);
        holds("hour=4", false);
        holds("hour#3", false);
        holds("hour#4", true);
        holds("not hour=3", false);
        holds("not not hour=3", true);
        holds("1=1 or 1=1 and 1=2", true);
        holds("[1=1 or 1=1] and 1=2", false);
        holds("1=2 and 1=1 or 1=1", true);
        holds("1=2 and[1=1 or 1=1]", false);
        holds("not 1=2 and 1=2", false);
        holds("not[1=2 and 1=2]", true);
        holds("1=2 or 1=2 or 1=1", true);
        holds("1=1 and 1=1 and 1=2", false);
        holds("(1+1)*2=2+2", true);
        holds("[[1<2]]", true);
    }

    private static void rulesInOrder() {
        ShadeRegister x = with("when hour=1 give 10; when hour<3 give 20; give 30; give 40;", 4);
        due("first", x.gives(1, 0, 0, 0, 0, 0), 10);
        due("second", x.gives(2, 0, 0, 0, 0, 0), 20);
        due("without when", x.gives(3, 0, 0, 0, 0, 0), 30);
        ShadeRegister y = with("when hour=1 give 10;", 1);
        due("without such", y.gives(2, 0, 0, 0, 0, 0), 0);
        feed(x, "give 5;");
        due("another", x.tariff(), 1);
        feed(x, "when hour=1 give 10;");
        due("a third", x.tariff(), 1);
        due("nothing is left of the first", x.gives(2, 0, 0, 0, 0, 0), 0);
    }

    private static void tokens() {
        with("", 0);
        with(" \n \n", 0);
        with("give\n1\n;\n", 1);
        with("give1;give2;", 2);
        with("when1<2give(3);", 1);
        holds("1<=1", true);
        faulty("when 1< =1 give 2;", 1, 8);
        faulty("when 1=<1 give 2;", 1, 7);
        faulty("give\t1;", 1, 4);
        faulty("give 1\r;", 1, 6);
        faulty("give Hour;", 1, 5);
        faulty("Give 1;", 1, 0);
        faulty("give hours;", 1, 5);
        faulty("give houR;", 1, 5);
        faulty("give ho ur;", 1, 5);
        faulty("give 1" + (char) 233 + ";", 1, 6);
        faulty("give 1" + (char) 0 + ";", 1, 6);
        faulty("givehour;", 1, 0);
        faulty("givez 1;", 1, 0);
        faulty("giveZ 1;", 1, 0);
        faulty("giveA 1;", 1, 0);
        faulty("zgive 1;", 1, 0);
        faulty("give`1;", 1, 4);
        faulty("give{1;", 1, 4);
        faulty("give@1;", 1, 4);
        faulty("give 1:", 1, 6);
        faulty("give 1>=1;", 1, 6);
        faulty("when 1 ] 2 give 1;", 1, 7);
        faulty("when [1<2, give 1;", 1, 9);
        faulty("give (1];", 1, 7);
        faulty("give min(1;2);", 1, 10);
        faulty("give 1,", 1, 6);
        faulty("give 1 2;", 1, 7);
        faulty("give 1.5;", 1, 6);
        faulty("give 1!=2;", 1, 6);
    }

    private static void misplaced() {
        faulty("1", 1, 0);
        faulty("hour", 1, 0);
        faulty(";", 1, 0);
        faulty("give 1;;", 1, 7);
        faulty("give;", 1, 4);
        faulty("give give", 1, 5);
        faulty("give 1+;", 1, 7);
        faulty("give 1+*2;", 1, 7);
        faulty("give +1;", 1, 5);
        faulty("give ();", 1, 6);
        faulty("give (1;", 1, 7);
        faulty("give 1);", 1, 6);
        faulty("give [1];", 1, 5);
        faulty("give 1<2;", 1, 6);
        faulty("give not 1;", 1, 5);
        faulty("give min 1;", 1, 9);
        faulty("give min(1);", 1, 10);
        faulty("give min(1,2,3);", 1, 12);
        faulty("give max(,1);", 1, 9);
        faulty("give min;", 1, 8);
        faulty("when give 1;", 1, 5);
        faulty("when 1 give 1;", 1, 7);
        faulty("when 1<2<3 give 1;", 1, 8);
        faulty("when 1<2;", 1, 8);
        faulty("when (1<2) give 1;", 1, 7);
        faulty("when [1] give 1;", 1, 7);
        faulty("when [1<2 give 1;", 1, 10);
        faulty("when 1<2] give 1;", 1, 8);
        faulty("when or give 1;", 1, 5);
        faulty("when 1<2 and give 1;", 1, 13);
        faulty("when 1<2 or not give 1;", 1, 16);
        faulty("when 1 and 2<3 give 1;", 1, 7);
        faulty("when 1<not 2<3 give 1;", 1, 7);
        faulty("give 1; when", 1, 12);
    }

    private static void unfinished() {
        faulty("give", 1, 4);
        faulty("give  \n", 1, 7);
        faulty("when", 1, 4);
        faulty("when 1", 1, 6);
        faulty("when 1<", 1, 7);
        faulty("when 1<2", 1, 8);
        faulty("when 1<2 give", 1, 13);
        faulty("when [1<2", 1, 9);
        faulty("when not ", 1, 9);
        faulty("give (1 ", 1, 8);
        faulty("give min", 1, 8);
        faulty("give min(", 1, 9);
        faulty("give -", 1, 6);
        faulty("give 1 ", 1, 7);
    }

    private static void tooGreat() {
        with("give 100000;", 1);
        faulty("give 100001;", 2, 5);
        faulty("give 000100001;", 2, 5);
        faulty("give 1+99999999999999999999999999999999999;", 2, 7);
        faulty("give 4294967296;", 2, 5);
        faulty("give 18446744073709551616;", 2, 5);
        faulty("when 200000<1 give", 2, 5);
        faulty("give 200000 !", 2, 5);
    }

    private static void tooDeep() {
        String ten = "((((((((((";
        with("give " + ten + "1" + ten.replace('(', ')') + ";", 1);
        faulty("give (" + ten, 3, 15);
        with("give ----------1;", 1);
        faulty("give -----------1;", 3, 15);
        faulty("give -(-(-(-(-(-1", 3, 15);
        with("give -(-(-(-(-(1-1-1-1)))));", 1);
        with("when not not not not not not not not not not 1<2 give 1;", 1);
        faulty("when not not not not not not not not not not not 1<2 give 1;", 3, 45);
        faulty("when [[[[[[[[[[[1<2", 3, 15);
        faulty("when [[[[[[[[[[-1<2", 3, 15);
        faulty("when [[[[[[[[[[(1<2", 3, 15);
        faulty("when [[[[[[[[[[not 1<2", 3, 15);
        faulty("when not[not[not[not[not[min(1,2)<3", 3, 28);
        faulty("give " + ten + "max(1,2)", 3, 18);
        with("give min(min(min(min(min(min(min(min(min(min(1,2),2),2),2),2),2),2),2),2),2);", 1);
        faulty("give min(min(min(min(min(min(min(min(min(min(min(", 3, 48);
        faulty("give min(1,((((((((((2", 3, 20);
        faulty("give max(1,-(-(-(-(-(2", 3, 20);
        with("give max(1,((((((((( 2 ))))))))));", 1);
        // What is closed again is not open around what comes behind it.
        with("give (1)+(1)+(1)+(1)+(1)+(1)+(1)+(1)+(1)+(1)+(1)+(1);", 1);
        with("give -1-1-1-1-1-1-1-1-1-1-1-1+-1+-1+-1+-1+-1+-1+-1+-1+-1+-1+-1;", 1);
        with("when not 1<2 and not 1<2 and not 1<2 and not 1<2 and not 1<2 and not 1<2 and not 1<2 and not 1<2"
            + " and not 1<2 and not 1<2 and not 1<2 and [1<2] give 1;", 1);
    }

    private static void tooManyRules() {
        StringBuilder twenty = new StringBuilder();
        for (int i = 0; i < 20; i++) {
            twenty.append("give 1;");
        }
        with(twenty.toString(), 20);
        faulty(twenty + "give 1;", 4, 140);
        faulty(twenty + " when 1<2 give 1;", 4, 141);
        faulty(twenty + "when", 4, 140);
        faulty(twenty + ";", 1, 140);
    }

    private static void leastOfOneToken() {
        faulty("100001", 1, 0);
        faulty("give 1 100001;", 1, 7);
        faulty("give ((((((((((1(", 1, 16);
        faulty("give ((((((((((min-", 1, 18);
        faulty("when [[[[[[[[[[1<2[", 1, 18);
        StringBuilder twenty = new StringBuilder();
        for (int i = 0; i < 20; i++) {
            twenty.append("give 1;");
        }
        faulty(twenty + "100001", 1, 140);
    }

    private static void givesRefused() {
        ShadeRegister x = with("give 5;", 1);
        due("all edges", x.gives(1000000, -1000000, 1000000, -1000000, 1000000, -1000000), 5);
        for (int i = 0; i < 6; i++) {
            for (int value : new int[] {1000001, -1000001, Integer.MAX_VALUE, Integer.MIN_VALUE}) {
                int[] n = new int[6];
                n[i] = value;
                due("gives, the " + i + "th is " + value, x.gives(n[0], n[1], n[2], n[3], n[4], n[5]), REFUSED);
            }
        }
        due("below 0 too", with("give -5;", 1).gives(0, 0, 0, 0, 0, 0), -5);
    }
}
