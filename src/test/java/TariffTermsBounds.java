/** The bounds that part IV of the document's terms names for the small language of the tariff. */
final class TariffTermsBounds {
    private static final int NONE = ShadeRegister.NONE;
    private static final String NAMES = "hour month day height many kind thing stall";

    private final Bounds b;

    private TariffTermsBounds(Bounds b) {
        this.b = b;
    }

    static void all(Bounds b) {
        TariffTermsBounds t = new TariffTermsBounds(b);
        t.lengths();
        t.everyByte();
        t.letters();
        t.numbers();
        t.longest();
        t.rules();
        t.eithers();
        t.asks();
        t.sums();
        t.ones();
        t.names();
        t.steps();
        t.bothSides();
        t.firstRule();
        t.placesOfFaults();
        t.unfit();
        t.tooGreat();
        t.tooDeep();
        t.closedAgain();
        t.tooManyRules();
    }

    private static ShadeRegister fed(String text) {
        ShadeRegister x = new ShadeRegister(4, 4);
        TariffTest.feed(x, text);
        return x;
    }

    private ShadeRegister sound(String text, int rules) {
        ShadeRegister x = fed(text);
        b.due(text, x.tariff(), rules);
        b.due(text + ": fault", x.fault(0), 0);
        b.due(text + ": place", x.fault(1), NONE);
        b.due(text + ": rules", x.about(8), rules);
        return x;
    }

    private void faulty(String text, int fault, int place) {
        ShadeRegister x = fed(text);
        b.due(text, x.tariff(), NONE);
        b.due(text + ": fault", x.fault(0), fault);
        b.due(text + ": place", x.fault(1), place);
        b.due(text + ": rules", x.about(8), 0);
    }

    /** What a sum gives with hour 3, month 5, height 7, many 2, kind 1 and thing 9. */
    private void gives(String sum, long want) {
        b.due("give " + sum, sound("give " + sum + ";", 1).gives(3, 5, 7, 2, 1, 9), want);
    }

    private void holds(String either, boolean want) {
        String text = "when " + either + " give 1; give 2;";
        b.due(text, sound(text, 2).gives(3, 5, 7, 2, 1, 9), want ? 1 : 2);
    }

    private static String times(String text, int many) {
        return text.repeat(many);
    }

    private void lengths() {
        b.of("THE TARIFF: a text of up to 400 bytes.");
        sound("", 0);
        sound("give 1" + times(" ", 392) + " ;", 1);
        sound("give 1;" + times("\n", 393), 1);
        faulty("give 1" + times(" ", 393) + "!", 1, 399);
        faulty("give 1" + times(" ", 394), 1, 400);
        faulty(times(" ", 399) + "!", 1, 399);
        faulty(times(" ", 396) + "give", 1, 400);
        faulty("when 1" + times(" ", 393) + "<", 1, 400);
        faulty("when 1" + times(" ", 392) + ">=", 1, 400);
        b.due("the last number of 400 bytes", sound("give " + times("0", 390) + "1234;", 1).gives(0, 0, 0, 0, 0, 0), 1234);
        ShadeRegister x = fed(times(" ", 400));
        b.due("400 bytes", x.about(9), 400);
        b.due("no byte more", x.feed(0, 0, 0, 0, 0), NONE);
        StringBuilder most = new StringBuilder("give 1");
        while (most.length() < 396) {
            most.append("+1");
        }
        b.due("as many steps as there is room for", sound(most + " ;", 1).gives(0, 0, 0, 0, 0, 0), 196);
    }

    private void everyByte() {
        b.of("TOKENS, blanks (32, 10) aside:");
        for (int sign = 0; sign < 256; sign++) {
            String text = "give 1" + (char) sign + ";";
            boolean digit = sign >= '0' && sign <= '9';
            if (sign == 32 || sign == 10 || digit) {
                sound(text, 1);
            } else {
                boolean fits = sign == '+' || sign == '-' || sign == '*' || sign == '/' || sign == ';';
                faulty(text, 1, fits ? 7 : 6);
            }
        }
        for (int sign : new int[] {9, 11, 13, 31, 33}) {
            faulty("give" + (char) sign + "1;", 1, 4);
        }
        sound(" \n \n ", 0);
        sound("\ngive\n\n1\n;\n", 1);
        sound("give1;", 1);
    }

    private void letters() {
        b.of("letters a .. z, A .. Z one behind the other (one TOKEN),");
        for (char sign : new char[] {'a', 'z', 'A', 'Z', 'm', 'M'}) {
            faulty("give" + sign + " 1;", 1, 0);
            faulty("give hour" + sign + ";", 1, 5);
            faulty("give " + sign + "hour;", 1, 5);
        }
        for (char sign : new char[] {'@', '[', '`', '{', '_'}) {
            faulty("give" + sign + " 1;", 1, 4);
            faulty("give hour" + sign + ";", 1, 9);
        }
        faulty("givehour;", 1, 0);
        faulty("give HOUR;", 1, 5);
        faulty("GIVE hour;", 1, 0);
        faulty("gi ve 1;", 1, 0);
        faulty("give ho\nur;", 1, 5);
        faulty("give hour2;", 1, 9);
        faulty("give 2hour;", 1, 6);
        sound("when 1<2give 3;", 1);
    }

    private void numbers() {
        b.of("digits likewise (NUMBERS, 0 .. 100000),");
        gives("0", 0);
        gives("100000", 100000);
        gives("99999", 99999);
        gives("98765", 98765);
        gives("01234", 1234);
        gives("000000000000000000000100000", 100000);
        faulty("give 100001;", 2, 5);
        faulty("give 1 0;", 1, 7);
        faulty("give /1;", 1, 5);
        faulty("give :1;", 1, 5);
    }

    private void longest() {
        b.of("<= >= < > = # + - * / ( ) [ ] , ; (the longest).");
        holds("3<=3", true);
        holds("3>=3", true);
        holds("4<=3", false);
        holds("2>=3", false);
        faulty("when 3< =3 give 1;", 1, 8);
        faulty("when 3> =3 give 1;", 1, 8);
        faulty("when 3=<3 give 1;", 1, 7);
        faulty("when 3=>3 give 1;", 1, 7);
        faulty("when 3<>3 give 1;", 1, 7);
        faulty("when 3==3 give 1;", 1, 7);
        faulty("when 3<==3 give 1;", 1, 8);
        faulty("when 3##3 give 1;", 1, 7);
        faulty("when 3<", 1, 7);
        faulty("when 3<=", 1, 8);
        sound("when[max(hour,1)*2/1+1-1>=0]give(1);", 1);
    }

    private void rules() {
        b.of("{RULE}. RULE: when EITHER give SUM ; or give SUM ; (20 at most).");
        sound("", 0);
        sound("give 1;", 1);
        sound("when 1<2 give 1;", 1);
        sound("give 1;when 1<2 give 1;give 1;", 3);
        sound(times("give 1;", 20), 20);
        sound(times("when 1<2give 1;", 20), 20);
        faulty(times("give 1;", 21), 4, 140);
        faulty("give 1", 1, 6);
        faulty("give 1;;", 1, 7);
        faulty(";", 1, 0);
        faulty("give", 1, 4);
        faulty("give ;", 1, 5);
        faulty("when give 1;", 1, 5);
        faulty("when 1<2;", 1, 8);
        faulty("when 1<2 1;", 1, 9);
        faulty("when 1<2 when 1<2 give 1;", 1, 9);
        faulty("give give 1;", 1, 5);
        faulty("1;", 1, 0);
        faulty("or", 1, 0);
    }

    private void eithers() {
        b.of("EITHER: BOTH {or BOTH}. BOTH: ASK {and ASK}.");
        boolean[] values = {false, true};
        for (boolean one : values) {
            for (boolean two : values) {
                for (boolean three : values) {
                    String p = one ? "1=1" : "1=2";
                    String q = two ? "1=1" : "1=2";
                    String r = three ? "1=1" : "1=2";
                    holds(p + " or " + q + " and " + r, one || two && three);
                    holds(p + " and " + q + " or " + r, one && two || three);
                    holds(p + " or " + q + " or " + r, one || two || three);
                    holds(p + " and " + q + " and " + r, one && two && three);
                }
            }
        }
        StringBuilder many = new StringBuilder("1=2");
        for (int i = 0; i < 50; i++) {
            many.append("or 1=2");
        }
        holds(many.toString(), false);
        holds(many + "or 1=1", true);
        holds(many.toString().replace("or", "and").replace("1=2", "1=1"), true);
        faulty("when 1=1 or give 1;", 1, 12);
        faulty("when 1=1 and give 1;", 1, 13);
        faulty("when or 1=1 give 1;", 1, 5);
        faulty("when and 1=1 give 1;", 1, 5);
        faulty("when 1=1 or or 1=1 give 1;", 1, 12);
        faulty("when 1=1 1=1 give 1;", 1, 9);
    }

    private void asks() {
        b.of("ASK: not ASK, or [ EITHER ], or SUM one of < <= > >= = # (unlike) SUM.");
        String[] signs = {"<", "<=", ">", ">=", "=", "#"};
        for (int left = 4; left <= 6; left++) {
            boolean[] want = {left < 5, left <= 5, left > 5, left >= 5, left == 5, left != 5};
            for (int i = 0; i < 6; i++) {
                holds(left + signs[i] + "month", want[i]);
                holds("not " + left + signs[i] + "month", !want[i]);
                holds("not not " + left + signs[i] + "month", want[i]);
                holds("not[" + left + signs[i] + "month]", !want[i]);
                holds("[" + left + signs[i] + "month]", want[i]);
            }
        }
        holds("not 1=2 and 1=2", false);
        holds("not[1=2 and 1=2]", true);
        holds("not 1=1 or 1=1", true);
        holds("not[1=1 or 1=1]", false);
        holds("1+1*2=9/3", true);
        holds("-1<-0", true);
        faulty("when 1 give 1;", 1, 7);
        faulty("when 1< give 1;", 1, 8);
        faulty("when <1 give 1;", 1, 5);
        faulty("when 1<2<3 give 1;", 1, 8);
        faulty("when [1] give 1;", 1, 7);
        faulty("when [] give 1;", 1, 6);
        faulty("when [1<2 give 1;", 1, 10);
        faulty("when 1<2] give 1;", 1, 8);
        faulty("when [1<2]<3 give 1;", 1, 10);
        faulty("when (1<2) give 1;", 1, 7);
        faulty("when not give 1;", 1, 9);
        faulty("when not 1 give 1;", 1, 11);
        faulty("when 1<not 2 give 1;", 1, 7);
        faulty("when 1 not < 2 give 1;", 1, 7);
    }

    private void sums() {
        b.of("SUM: PRODUCT {+ or - PRODUCT}. PRODUCT: ONE {* or / ONE}.");
        gives("2+3*4", 14);
        gives("2*3+4", 10);
        gives("2+6/3", 4);
        gives("9-2*3-1", 2);
        gives("9-3-2", 4);
        gives("9-3+2", 8);
        gives("100/10/5", 2);
        gives("100/10*5", 50);
        gives("7*3/2", 10);
        gives("7/2*3", 9);
        faulty("give 1+;", 1, 7);
        faulty("give 1-;", 1, 7);
        faulty("give 1*;", 1, 7);
        faulty("give 1/;", 1, 7);
        faulty("give +1;", 1, 5);
        faulty("give *1;", 1, 5);
        faulty("give 1++1;", 1, 7);
        faulty("give 1+*1;", 1, 7);
        faulty("give 1*/1;", 1, 7);
    }

    private void ones() {
        b.of("ONE: NUMBER, NAME, ( SUM ), - ONE, min ( SUM , SUM ), max likewise.");
        gives("(2+3)*4", 20);
        gives("2*(3+4)", 14);
        gives("-3", -3);
        gives("--3", 3);
        gives("2--3", 5);
        gives("2*-3", -6);
        gives("-2*-3", 6);
        gives("-(2+3)", -5);
        gives("-hour", -3);
        gives("-min(2,3)", -2);
        gives("min(2,3)", 2);
        gives("min(3,2)", 2);
        gives("min(-2,2)", -2);
        gives("max(2,3)", 3);
        gives("max(3,2)", 3);
        gives("max(-2,2)", 2);
        gives("min(4,4)+max(5,5)", 9);
        gives("min ( 1+2 , max ( 2*3 , 4 ) )", 3);
        faulty("give ();", 1, 6);
        faulty("give (1;", 1, 7);
        faulty("give 1);", 1, 6);
        faulty("give (1));", 1, 8);
        faulty("give (1,2);", 1, 7);
        faulty("give -;", 1, 6);
        faulty("give -+1;", 1, 6);
        faulty("give min;", 1, 8);
        faulty("give min 1,2;", 1, 9);
        faulty("give min(1);", 1, 10);
        faulty("give min(1,);", 1, 11);
        faulty("give min(,1);", 1, 9);
        faulty("give max(1,2,3);", 1, 12);
        faulty("give max();", 1, 9);
        faulty("give max(1,2;", 1, 12);
        faulty("give [1];", 1, 5);
        faulty("give not 1;", 1, 5);
        faulty("give (1<2);", 1, 7);
        faulty("give 1 1;", 1, 7);
        faulty("give hour hour;", 1, 10);
    }

    private void names() {
        b.of("NAMES: hour, month, day, height, many, kind, thing, stall.");
        int[] values = {3, 5, 0, 7, 2, 1, 9, 0};
        String[] all = NAMES.split(" ");
        for (int i = 0; i < all.length; i++) {
            gives(all[i], values[i]);
            faulty("give " + all[i] + "s;", 1, 5);
            faulty("give " + all[i].substring(1) + ";", 1, 5);
            faulty("give " + all[i].substring(0, all[i].length() - 1) + ";", 1, 5);
            faulty("give " + Character.toUpperCase(all[i].charAt(0)) + all[i].substring(1) + ";", 1, 5);
            faulty(all[i], 1, 0);
        }
        for (String word : new String[] {"min", "max"}) {
            faulty("give " + word + "i(1,2);", 1, 5);
        }
        faulty("give hoar;", 1, 5);
        faulty("give hout;", 1, 5);
        faulty("give year;", 1, 5);
    }

    private void steps() {
        b.of("From the left; / cuts to 0, by 0 it is 0; what is above 1000000000 (below the same less) is that, at each "
            + "step.");
        gives("7/2", 3);
        gives("-7/2", -3);
        gives("7/-2", -3);
        gives("-7/-2", 3);
        gives("1/2", 0);
        gives("-1/2", 0);
        gives("7/0", 0);
        gives("-7/0", 0);
        gives("0/0", 0);
        gives("7/0+1", 1);
        gives("7/(1-1)", 0);
        gives("99999*10000", 999990000);
        gives("100000*10000", 1000000000);
        gives("100000*10000-1", 999999999);
        gives("100000*10000+0", 1000000000);
        gives("100000*10000+1", 1000000000);
        gives("100000*10000+1-1", 999999999);
        gives("1+100000*10000-1", 999999999);
        gives("100000*10001/2", 500000000);
        gives("-100000*10000", -1000000000);
        gives("-100000*10000+1", -999999999);
        gives("-100000*10000-1", -1000000000);
        gives("-100000*10000-1+1", -999999999);
        gives("-100000*10001/2", -500000000);
        gives("100000*100000*100000*100000*100000*0+5", 5);
        gives("-100000*100000*100000*100000", -1000000000);
        gives("100000*100000*-1", -1000000000);
        gives("-(100000*100000)", -1000000000);
        gives("-(-100000*100000)", 1000000000);
        gives("(100000*100000)*(100000*100000)", 1000000000);
        gives("100000*100000-(-100000*100000)", 1000000000);
        gives("-100000*100000/-1", 1000000000);
        gives("min(100000*100000,100000*100000+1)", 1000000000);
        holds("100000*100000=100000*10000", true);
    }

    private void bothSides() {
        b.of("or and and look at both sides always.");
        faulty("when 1=1 or 100001=1 give 1;", 2, 12);
        faulty("when 1=2 and 100001=1 give 1;", 2, 13);
        holds("1=1 or 1/0=1", true);
        holds("1=2 and 1/0=1", false);
    }

    private void firstRule() {
        b.of("The first RULE whose EITHER holds (without when: always) gives its SUM; without such 0.");
        ShadeRegister x = sound("when hour<1 give 10; when hour<2 give 20; when hour<3 give 30;", 3);
        int[] want = {10, 20, 30, 0};
        for (int hour = 0; hour < 4; hour++) {
            b.due("hour " + hour, x.gives(hour, 0, 0, 0, 0, 0), want[hour]);
        }
        b.due("without when", sound("when hour<1 give 10; give 20; give 30;", 3).gives(1, 0, 0, 0, 0, 0), 20);
        b.due("the first without when", sound("give 20; when 1=1 give 30;", 2).gives(1, 0, 0, 0, 0, 0), 20);
        b.due("no rule", sound("", 0).gives(1, 0, 0, 0, 0, 0), 0);
        b.due("the 20th", sound(times("when 1=2give 1;", 19) + "give 7;", 20).gives(1, 0, 0, 0, 0, 0), 7);
        b.due("none of 20", sound(times("when 1=2give 1;", 20), 20).gives(1, 0, 0, 0, 0, 0), 0);
        b.due("a sum below 0", sound("when 1=1 give -7; give 3;", 2).gives(1, 0, 0, 0, 0, 0), -7);
        b.due("a sum of 0", sound("when 1=1 give 0; give 3;", 2).gives(1, 0, 0, 0, 0, 0), 0);
    }

    private void placesOfFaults() {
        b.of("FAULTS, the first as TOKENS are come to, at the TOKEN's first byte (of the end at the length), of one the "
            + "least:");
        faulty("give 1", 1, 6);
        faulty("give 1  \n", 1, 9);
        faulty("give", 1, 4);
        faulty("  give 1 hours", 1, 9);
        faulty("give 100001 !", 2, 5);
        faulty("give ! 100001", 1, 5);
        faulty("give 1 100001;", 1, 7);
        faulty("100001", 1, 0);
        faulty("give (((((((((((100001", 3, 15);
        faulty("give ((((((((((100001(", 2, 15);
        faulty("give ((((((((((1(", 1, 16);
        faulty("when [[[[[[[[[[1<2[", 1, 18);
        faulty("when [[[[[[[[[[1 not", 1, 17);
        faulty("give ((((((((((min[", 1, 18);
        faulty(times("give 1;", 20) + "100001", 1, 140);
        faulty(times("give 1;", 20) + "!", 1, 140);
        faulty(times("give 1;", 20) + "give 100001;", 4, 140);
        faulty(times("give 1;", 19) + "give 1", 1, 139);
    }

    private void unfit() {
        b.of("1 it can't stand there, or is none.");
        String[] tokens = {"when", "give", "or", "and", "not", "min", "max", "hour", "7", "<=", ">=", "<", ">", "=", "#",
            "+", "-", "*", "/", "(", ")", "[", "]", ",", ";", "!", "word", ""};
        String first = " when give ";
        String inSum = " min max hour 7 - ( ";
        String[][] beginnings = {{"", first}, {"give ", inSum}, {"when ", inSum + "not [ "}, {"give 1", " + - * / ; 7 "},
            {"when 1", " + - * / < <= > >= = # 7 "}, {"when 1<1", " + - * / or and give 7 "},
            {"when not ", inSum + "not [ "}, {"when [", inSum + "not [ "}, {"when [1<1", " + - * / or and ] 7 "},
            {"when [1<1]", " or and give "}, {"give min", " ( "}, {"give min(", inSum}, {"give min(1", " + - * / , 7 "},
            {"give min(1,", inSum}, {"give min(1,1", " + - * / ) 7 "}, {"give (", inSum}, {"give (1", " + - * / ) 7 "},
            {"give -", inSum}, {"give 1+", inSum}, {"give 1*", inSum}, {"when 1<1 give ", inSum},
            {"when 1<1 or ", inSum + "not [ "}, {"when 1<1 and ", inSum + "not [ "}, {"when 1<", inSum + "= "}};
        for (String[] beginning : beginnings) {
            for (String token : tokens) {
                boolean joins = !token.isEmpty() && Character.isLetter(token.charAt(0));
                String text = beginning[0] + (joins ? " " : "") + token;
                int place = text.length() - token.length();
                boolean fits = !token.isEmpty() && beginning[1].contains(" " + token + " ");
                if (!fits && !(token.isEmpty() && beginning[0].isEmpty())) {
                    faulty(text, 1, place);
                } else if (fits) {
                    // What fits is passed: the fault is at the end, or there is none.
                    ShadeRegister x = fed(text);
                    x.tariff();
                    b.due(text + ": fits", x.fault(0) == 0 || x.fault(1) == text.length(), true);
                }
            }
        }
    }

    private void tooGreat() {
        b.of("2 a NUMBER above 100000.");
        sound("give 100000;", 1);
        faulty("give 100001;", 2, 5);
        faulty("give 000100001;", 2, 5);
        faulty("give 1000000;", 2, 5);
        faulty("give 2147483648;", 2, 5);
        faulty("give 4294967297;", 2, 5);
        faulty("give 18446744073709551617;", 2, 5);
        faulty("give 1" + times("0", 394), 2, 5);
        faulty("when 100001<1 give 1;", 2, 5);
        faulty("when 1<100001 give 1;", 2, 7);
        faulty("give min(1,100001);", 2, 11);
        faulty("give -100001;", 2, 6);
        faulty("give hour*100001;", 2, 10);
    }

    private void tooDeep() {
        b.of("3 the 11th of ( [ not and - (of one ONE) that are open around one another (at it; min and max at their ( ).");
        sound("give " + times("(", 10) + "1" + times(")", 10) + ";", 1);
        faulty("give " + times("(", 11) + "1" + times(")", 11) + ";", 3, 15);
        sound("give " + times("-", 10) + "1;", 1);
        faulty("give " + times("-", 11) + "1;", 3, 15);
        sound("give 1-" + times("-", 10) + "1;", 1);
        faulty("give 1-" + times("-", 11) + "1;", 3, 17);
        sound("when " + times("[", 10) + "1<2" + times("]", 10) + "give 1;", 1);
        faulty("when " + times("[", 11) + "1<2" + times("]", 11) + "give 1;", 3, 15);
        sound("when " + times("not ", 10) + "1<2 give 1;", 1);
        faulty("when " + times("not ", 11) + "1<2 give 1;", 3, 45);
        sound("give " + times("min(", 10) + "1" + times(",2)", 10) + ";", 1);
        faulty("give " + times("min(", 11) + "1" + times(",2)", 11) + ";", 3, 48);
        sound("give " + times("max(1,", 10) + "1" + times(")", 10) + ";", 1);
        faulty("give " + times("max(1,", 11) + "1" + times(")", 11) + ";", 3, 68);
        String[] ten = {"when not[not[not[not[not[", "when [[[[[[[[[[", "when not not not not not[[[[[",
            "when [[[[[(((((", "when not not not[[[(-(-", "when [[[[[min(max(1,((-"};
        String[] openers = {"(", "-", "min(", "max("};
        for (String open : ten) {
            faulty(open + "(", 3, open.length());
            faulty(open + "-", 3, open.length());
            faulty(open + "min(", 3, open.length() + 3);
            faulty(open + "max (", 3, open.length() + 4);
            faulty(open + "1", 1, open.length() + 1);
        }
        for (String open : openers) {
            String nine = "give " + times("(", 9) + open;
            faulty(nine + "(", 3, nine.length());
            faulty(nine + "1", 1, nine.length() + 1);
        }
        for (int i = 0; i < 3; i++) {
            faulty(ten[i] + "[", 3, ten[i].length());
            faulty(ten[i] + "not", 3, ten[i].length());
        }
    }

    private void closedAgain() {
        String deep = times("(", 10) + "1" + times(")", 10);
        sound("give " + deep + "+" + deep + "*" + deep + ";", 1);
        sound("give " + times("(", 9) + "-1-1+-1*-1" + times(")", 9) + ";", 1);
        sound("give " + times("(", 9) + "(1)+(1)*(1)-min(1,2)" + times(")", 9) + ";", 1);
        sound("give min(" + times("(", 9) + "1" + times(")", 9) + "," + times("(", 9) + "1" + times(")", 9) + ");", 1);
        sound("when " + times("[", 9) + "not 1<2 and not 1<2 or[1<2]and -1<-1" + times("]", 9) + "give 1;", 1);
        sound("when " + times("[", 10) + "1<2" + times("]", 10) + "and" + times("[", 10) + "1<2" + times("]", 10)
            + "give " + deep + ";", 1);
        sound("when " + times("not ", 9) + "(1)<(2)and " + times("not ", 9) + "(1)<(2)give 1;", 1);
        faulty("when " + times("not ", 9) + "(1)<(2)and " + times("not ", 9) + "(1)<((", 3, 93);
        sound("give " + times("-", 10) + "1-" + times("-", 10) + "1;", 1);
        sound("give 1" + times("-1", 40) + ";", 1);
        sound("give " + deep + ";give " + deep + ";", 2);
    }

    private void tooManyRules() {
        b.of("4 the 21st RULE (at its first TOKEN).");
        String twenty = times("give 1;", 20);
        sound(twenty, 20);
        sound(twenty + " \n ", 20);
        faulty(twenty + "give 1;", 4, 140);
        faulty(twenty + " \n give 1;", 4, 143);
        faulty(twenty + "when 1<2 give 1;", 4, 140);
        faulty(twenty + "when", 4, 140);
        faulty(twenty + "give", 4, 140);
        faulty(twenty + twenty, 4, 140);
        faulty(twenty + ";", 1, 140);
        faulty(twenty + "gives", 1, 140);
    }
}
