/** 'Terms', part 3, and promises 12 to 17: each sentence that names a bound or a case at its edge. */
public final class TextEdgesTest {
    private static final String MILLION = "1000*1000";

    public static void main(String[] args) {
        fourHundred();
        highestFirst();
        endings();
        everyByte();
        asLongAsCanBe();
        blanks();
        words();
        clauses();
        clausesOnce();
        numbers();
        eightDeep();
        closedAgain();
        bindings();
        holding();
        brought();
        divided();
        firstFault();
        badBytes();
        tooEarly();
        sheets();
        sheetWithFault();
        forcedFrom();
        twelveTimes();
        latestWeek();
        putLater();
        whyOf();
        withoutAny();
        namesNotTold();
        Checks.finish("TextEdgesTest");
    }

    private static void fault(String text, int want) {
        WheelLand x = new WheelLand();
        Checks.write(x, text);
        Checks.due("fault of '" + text + "'", x.fault(), want);
        Checks.due("sheet of '" + text + "'", x.sheet(), want == -1 ? 0 : -1);
        Checks.due("SHEETS", x.count(4), want == -1 ? 1 : 0);
        Checks.due("bytes", x.count(6), want == -1 ? 0 : text.length());
    }

    private static void fourHundred() {
        Checks.sentence("A TEXT has at most 400 bytes.");
        WheelLand x = new WheelLand();
        int blanks = 0x20202020;
        for (int k = 1; k <= 20; k++) {
            Checks.due("feed", x.feed(blanks, blanks, blanks, blanks, blanks), 20 * k);
        }
        Checks.due("feed beyond 400", x.feed(blanks, blanks, blanks, blanks, blanks), -1);
        Checks.due("bytes", x.count(6), 400);
        for (int n = 399; n > 380; n--) {
            Checks.due("end(" + n + ")", x.end(n), true);
            Checks.due("feed beyond 400", x.feed(blanks, blanks, blanks, blanks, blanks), -1);
            Checks.due("bytes", x.count(6), n);
        }
        Checks.due("end(380)", x.end(380), true);
        Checks.due("feed up to 400", x.feed(blanks, blanks, blanks, blanks, blanks), 400);
        String most = "owe 1" + "+1".repeat(197) + ";";
        Checks.due("bytes", most.length(), 400);
        fault(most, -1);
        fault(most.substring(0, 399), 399);
        fault(most.substring(0, 399) + "$", 399);
        fault(" ".repeat(399) + ";", 399);
        fault("may 1" + "\n".repeat(393) + "=1", 400);
    }

    private static void highestFirst() {
        Checks.sentence("Bytes come behind those of the TEXT, of each number the highest first (20 of them)");
        WheelLand x = new WheelLand();
        // "owe 1;wage 23;duty 4" and "    ...... owe 9;   "
        Checks.due("feed", x.feed(0x6f776520, 0x313b7761, 0x67652032, 0x333b6475, 0x74792034), 20);
        Checks.due("fault", x.fault(), 20);
        Checks.due("feed", x.feed(0x20203b20, 0x6d617920, 0x313d313b, 0x20202020, 0x206f7765), 40);
        Checks.due("fault", x.fault(), 37);
        Checks.due("end(37)", x.end(37), true);
        Checks.due("fault", x.fault(), -1);
        int[][] high = {{0x80000000, 0}, {0x20800000, 1}, {0x20208000, 2}, {0x20202080, 3}, {-1, 0}};
        for (int[] h : high) {
            WheelLand y = new WheelLand();
            y.feed(h[0], 0, 0, 0, 0);
            Checks.due("fault of a high byte", y.fault(), h[1]);
        }
    }

    private static void endings() {
        Checks.sentence("The TEXT has its first n bytes alone: true; false if it has not so many, or n is below 0.");
        WheelLand x = new WheelLand();
        Checks.due("end(0) of none", x.end(0), true);
        Checks.due("end(1) of none", x.end(1), false);
        Checks.write(x, "owe 1; wage 1;");
        Checks.due("end(15) of 14", x.end(15), false);
        Checks.due("end(-1)", x.end(-1), false);
        Checks.due("end(least)", x.end(Integer.MIN_VALUE), false);
        Checks.due("end(most)", x.end(Integer.MAX_VALUE), false);
        Checks.due("bytes", x.count(6), 14);
        Checks.due("end(14) of 14", x.end(14), true);
        Checks.due("bytes", x.count(6), 14);
        Checks.due("fault", x.fault(), -1);
        Checks.due("end(13) of 14", x.end(13), true);
        Checks.due("fault", x.fault(), 13);
        Checks.due("end(14) of 13", x.end(14), false);
        Checks.due("end(0)", x.end(0), true);
        Checks.due("bytes", x.count(6), 0);
        Checks.due("fault", x.fault(), -1);
    }

    private static void everyByte() {
        Checks.sentence("TOKENS: words of small letters, numbers of digits, and + - * / ( ) [ ] < > = ;");
        for (int b = 0; b < 256; b++) {
            String sign = "" + (char) b;
            boolean letter = b >= 'a' && b <= 'z';
            boolean digit = b >= '0' && b <= '9';
            boolean blank = b == ' ' || b == '\n';
            boolean joins = "+-*/".indexOf(b) >= 0;
            int behindName = letter ? 4 : blank ? -1 : joins || b == ';' ? 9 : 8;
            fault("owe week" + sign + ";", behindName);
            int behindNumber = digit || blank ? -1 : joins || b == ';' ? 6 : 5;
            fault("owe 1" + sign + ";", behindNumber);
            int compares = b == '<' || b == '>' || b == '=' ? -1 : joins || digit || blank ? 7 : 5;
            fault("may 1" + sign + "1;", joins || digit ? 7 : blank ? 6 : compares);
        }
    }

    private static void asLongAsCanBe() {
        Checks.sentence("as long as can be");
        fault("owe 1week;", 5);
        fault("owe 12 3;", 7);
        fault("owe week1;", 8);
        fault("owe weekseason;", 4);
        fault("owe week season;", 9);
        fault("owe1;", -1);
        fault("owe1;wage1;duty1;may1=1;stamp1=1or1=1and1=1;", -1);
        fault("mayweek=1;", 0);
        fault("maynot 1=1;", 0);
        fault("may not1=1;", -1);
        fault("may notnot 1=1;", 4);
        fault("may 1=1orweek=1;", 7);
        fault("owe 1+00000000000000000000000000000000000000000001;", -1);
    }

    private static void blanks() {
        Checks.sentence("with any blanks (32) and line ends (10) between");
        fault("  owe\n\n 1 \n;  ", -1);
        fault("\n", -1);
        fault("may\n[\nnot\n1\n<\n2\n]\n;", -1);
        fault("owe\t1;", 3);
        fault("owe\r1;", 3);
        fault("owe\u00a01;", 3);
        fault("ow e 1;", 0);
        fault("owe 1\u0000;", 5);
    }

    private static void words() {
        Checks.sentence("NAMES: week season heads wheels skill caste other count strength hanks idle far price.");
        String[] names = {
            "week", "season", "heads", "wheels", "skill", "caste", "other", "count", "strength", "hanks", "idle",
            "far", "price"};
        for (String name : names) {
            for (String clause : new String[] {"owe", "wage", "duty"}) {
                fault(clause + " " + name + ";", -1);
            }
            fault("may " + name + "=1;stamp 1<" + name + ";", -1);
            fault("owe " + name + "s;", 4);
            fault("owe " + name.substring(1) + ";", 4);
            fault("owe " + name.substring(0, name.length() - 1) + ";", 4);
            fault("owe " + name.toUpperCase() + ";", 4);
            fault(name + " 1;", 0);
        }
        for (String word : new String[] {"owe", "wage", "duty", "may", "stamp", "or", "and", "not", "x", "purse"}) {
            fault("owe " + word + ";", 4);
            fault("may 1=" + word + ";", 6);
        }
    }

    private static void clauses() {
        Checks.sentence("A TEXT is CLAUSES, none or more");
        fault("", -1);
        fault("   ", -1);
        fault("owe 1;", -1);
        fault("wage 1;", -1);
        fault("duty 1;", -1);
        fault("may 1=1;", -1);
        fault("stamp 1=1;", -1);
        fault("stamp 1=1; may 1=1; duty 1; wage 1; owe 1;", -1);
        fault("may 1;", 5);
        fault("stamp 1;", 7);
        fault("owe 1=1;", 5);
        fault("wage 1=1;", 6);
        fault("duty 1=1;", 6);
        fault("ow 1;", 0);
        fault("owe 1; pay 1;", 7);
        for (String word : new String[] {"or", "and", "not", "price", "week"}) {
            fault(word + " 1;", 0);
            fault(word + " 1=1;", 0);
            fault("stamp 1=1; " + word + " 1=1;", 11);
        }
    }

    private static void clausesOnce() {
        Checks.sentence("each at most once");
        String[] all = {"owe 1;", "wage 1;", "duty 1;", "may 1=1;", "stamp 1=1;"};
        for (String one : all) {
            for (String other : all) {
                fault(one + other, one.equals(other) ? one.length() : -1);
                fault(one + other + one, one.equals(other) ? one.length() : (one + other).length());
            }
        }
    }

    private static void numbers() {
        Checks.sentence("F is a number (0 .. 9999)");
        fault("owe 0;", -1);
        fault("owe 9999;", -1);
        fault("owe 10000;", 4);
        fault("owe 0009999;", -1);
        fault("owe 00010000;", 4);
        fault("owe 1+10000;", 6);
        fault("owe 65536;", 4);
        fault("owe 4294967296;", 4);
        fault("owe 18446744073709551617;", 4);
        fault("owe 99999999999999999999999999999999999999999999999999;", 4);
        fault("may 10000=1;", 4);
        fault("may 1=10000;", 6);
        Checks.due("the value of 9999", value("9999"), 9999);
        Checks.due("the value of 0", value("0"), 0);
        Checks.due("the value of 0010", value("0010"), 10);
    }

    private static void eightDeep() {
        Checks.sentence("( [ and not open what is one deeper; 8 at most.");
        fault("owe " + "(".repeat(8) + "1" + ")".repeat(8) + ";", -1);
        fault("owe " + "(".repeat(9) + "1" + ")".repeat(9) + ";", 12);
        fault("may " + "[".repeat(8) + "1=1" + "]".repeat(8) + ";", -1);
        fault("may " + "[".repeat(9) + "1=1" + "]".repeat(9) + ";", 12);
        fault("may " + "not ".repeat(8) + "1=1;", -1);
        fault("may " + "not ".repeat(9) + "1=1;", 36);
        fault("may 1=" + "(".repeat(8) + "1" + ")".repeat(8) + ";", -1);
        fault("may 1=" + "(".repeat(9) + "1" + ")".repeat(9) + ";", 14);
        for (int opened = 0; opened <= 8; opened++) {
            int rest = 8 - opened;
            String close = "]".repeat(opened);
            String inner = "(".repeat(rest) + "1" + ")".repeat(rest);
            fault("may " + "[".repeat(opened) + inner + "=1" + close + ";", -1);
            fault("may " + "[".repeat(opened) + "(" + inner + ")=1" + close + ";", 12);
            fault("may " + "[".repeat(opened) + "not ".repeat(rest) + "1=1" + close + ";", -1);
            fault("may " + "[".repeat(opened) + "not ".repeat(rest) + "not 1=1" + close + ";", 4 + opened + 4 * rest);
            fault("may " + "not ".repeat(opened) + inner + "=1;", -1);
            fault("may " + "not ".repeat(opened) + "(" + inner + ")=1;", 4 + 4 * opened + rest);
            fault("may " + "not ".repeat(opened) + "1=(" + inner + ");", 6 + 4 * opened + rest);
        }
        fault("owe " + "(".repeat(300), 12);
        fault("may " + "[".repeat(300), 12);
        fault("may " + "not ".repeat(90), 36);
    }

    private static void closedAgain() {
        Checks.sentence("( [ and not open what is one deeper");
        String eight = "(".repeat(8) + "1" + ")".repeat(8);
        fault("owe " + eight + "+" + eight + "*" + eight + ";wage " + eight + ";", -1);
        fault("may not not not not not not not not 1=1 or " + eight + "=" + eight + ";", -1);
        fault("may not not not not not not not not 1=1 and not 1=1;", -1);
        fault("may [not [1=1] and not not not not not not not 1=1];", -1);
        fault("may [not [1=1] and not not not not not not not not 1=1];", 47);
        fault("may not [1=1 and " + "(".repeat(6) + "1" + ")".repeat(6) + "=1];", -1);
        fault("may not [1=1 and " + "(".repeat(7) + "1" + ")".repeat(7) + "=1];", 23);
    }

    /** What such a wage keeps one head at a price of 1; below 0 it is 0. */
    private static int value(String sum) {
        WheelLand x = new WheelLand();
        x.village(0, 5, 0);
        x.house(0, 1111);
        Checks.enforce(x, "wage " + sum + ";", 0);
        return x.keeps(0, 1);
    }

    private static void bindings() {
        Checks.sentence("E is T, any number of + T or - T; T is F, any number of * F or / F");
        String[] sums = {
            "2+3*4=14", "(2+3)*4=20", "20-5-3=12", "20-(5-3)=18", "2*3+4=10", "100/5/2=10", "100/(5/2)=50", "12/4*3=9",
            "12*4/3=16", "1+2+3+4=10", "9-2*3=3", "(9-2)*3=21", "8/2+2=6", "8/(2+2)=2", "7-3+2=6", "((7))=7"};
        for (String sum : sums) {
            String[] sides = sum.split("=");
            Checks.due(sum, value(sides[0]), Integer.parseInt(sides[1]));
        }
    }

    private static void holding() {
        Checks.sentence("C is A, any number of or A; A is B, any number of and B; B is not B, [ C ], E < E, E > E or E = E.");
        String[] hold = {
            "2<3", "3>2", "3=3", "0-1<0", "0>0-1", "not 2=3", "not 3<2", "not 2>2", "not not 2=2", "2=2 or 2=3",
            "2=3 or 2=2", "2=2 and 3=3", "2=2 or 2=2 and 2=3", "2=3 and 2=2 or 2=2", "not [2=3 and 2=2]",
            "not 2=2 or 2=2", "1+1=2", "2=1+1", "2=3 or 2=4 or 2=2", "2=2 and [2=3 or 2=2]", "not [2=3 or 3=2]"};
        for (String text : hold) {
            Checks.due("bar by " + text, land("may " + text + ";").bar(1, 0, 4), 0);
        }
        String[] fail = {
            "3<3", "4<3", "3>3", "2>3", "3=4", "0<0-1", "not 2=2", "not 7=7", "not 2<3", "not not not 2=2",
            "2=3 or 3=2", "2=2 and 2=3", "2=3 and 2=2", "2=3 and 3=2", "[2=2 or 2=2] and 2=3", "2=3 and [2=2 or 2=2]",
            "not 2=3 and 2=3", "not [2=2 or 2=3]", "not [2=2 and 3=3]", "2=2 and 3=3 and 4=5", "1+1=3"};
        for (String text : fail) {
            Checks.due("bar by " + text, land("may " + text + ";").bar(1, 0, 4), 5);
        }
    }

    private static void brought() {
        Checks.sentence("Results of + - * are brought into -1000000 .. 1000000");
        Checks.due("999999", value("999*1001"), 999999);
        Checks.due("1000000 of *", value(MILLION), 1000000);
        Checks.due("1000001 of *", value("101*9901"), 1000000);
        Checks.due("1000000 of +", value("999*1001+1"), 1000000);
        Checks.due("1000001 of +", value("999*1001+2"), 1000000);
        Checks.due("behind 1000001 of +", value("999*1001+2-1"), 999999);
        Checks.due("1000000 of -", value("999*1001-(0-1)"), 1000000);
        Checks.due("1000001 of -", value(MILLION + "-(0-1)-1"), 999999);
        String low = "(0-" + MILLION + ")";
        Checks.due("-1000000 of -", value(low + "+" + MILLION + "+7"), 7);
        Checks.due("-1000001 of -", value("(" + low + "-1)+" + MILLION + "+7"), 7);
        Checks.due("-1000001 of +", value("(" + low + "+(0-1))+" + MILLION + "+7"), 7);
        Checks.due("-999999 of +", value("(" + low + "+1)+" + MILLION + "+7"), 8);
        Checks.due("-1000000 of *", value("(0-1000)*1000+" + MILLION + "+7"), 7);
        Checks.due("-1000001 of *", value("(0-101)*9901+" + MILLION + "+7"), 7);
        Checks.due("-999999 of *", value("(0-999)*1001+" + MILLION + "+7"), 8);
        Checks.due("the greatest times the greatest", value(MILLION + "*(" + MILLION + ")"), 1000000);
        Checks.due("the least times the least", value(low + "*" + low), 1000000);
        Checks.due("the least times the greatest", value(low + "*(" + MILLION + ")+" + MILLION + "+7"), 7);
        Checks.due("the greatest and the greatest", value(MILLION + "+" + MILLION + "-1"), 999999);
        Checks.due("65536 times 65536", value("256*256*256*256"), 1000000);
    }

    private static void divided() {
        Checks.sentence("/ is cut toward 0, by 0 it is 0");
        Checks.due("7 by 2", value("7/2"), 3);
        Checks.due("-7 by 2", value("(0-7)/2+9"), 6);
        Checks.due("7 by -2", value("7/(0-2)+9"), 6);
        Checks.due("-7 by -2", value("(0-7)/(0-2)"), 3);
        Checks.due("6 by 2", value("6/2"), 3);
        Checks.due("-1 by 2", value("(0-1)/2+9"), 9);
        Checks.due("1 by 2", value("1/2+9"), 9);
        Checks.due("7 by 0", value("7/0+9"), 9);
        Checks.due("-7 by 0", value("(0-7)/0+9"), 9);
        Checks.due("0 by 0", value("0/0+9"), 9);
        Checks.due("by a NAME that is 0", value("7/season+9"), 9);
        Checks.due("by what comes to 0", value("7/(3-3)+9"), 9);
        Checks.due("0 by 7", value("0/7+9"), 9);
        Checks.due("the least by -1", value("(0-" + MILLION + ")/(0-1)"), 1000000);
        Checks.due("from the left", value("100/7/2"), 7);
    }

    private static void firstFault() {
        Checks.sentence("The FAULT is the place (from 0 on) of the first byte of the first TOKEN that can't stand there");
        fault("x", 0);
        fault(" x", 1);
        fault("owe x;", 4);
        fault("owe   x;", 6);
        fault("owe week weeks;", 9);
        fault("owe 1; x; y;", 7);
        fault("owe 10000; owe x;", 4);
        fault("owe 1; owe 10000;", 7);
        fault("owe 1; wage 10000; owe 1;", 12);
        fault("owe ((((((((( 10000;", 12);
        fault("owe 1+;", 6);
        fault("owe );", 4);
        fault("owe (1;", 6);
        fault("owe (1));", 7);
        fault("may [1=1;", 8);
        fault("may 1=1];", 7);
        fault("may (1=1);", 6);
        fault("may not;", 7);
        fault("may 1=1 or;", 10);
        fault("may 1=1 and;", 11);
        fault("may 1=1 not 1=1;", 8);
        fault("may 1<2>1;", 7);
        fault(";", 0);
        fault("owe 1;;", 6);
        fault("owe;", 3);
    }

    private static void badBytes() {
        Checks.sentence("or of a byte that begins no TOKEN, if that is ahead");
        fault("$", 0);
        fault("owe $;", 4);
        fault("owe 1$;", 5);
        fault("owe 1;$", 6);
        fault("owe 1; \u00ff", 7);
        fault("x $", 0);
        fault("$ x", 0);
        fault("owe 10000 $", 4);
        fault("owe $ 10000", 4);
        fault("owe 1; owe 2; $", 7);
        fault("owe 1; $ owe 2;", 7);
        fault("owe 1 A", 6);
        fault("owe 1+_", 6);
        fault("owe ((((((((($", 12);
        fault("owe (((((((($", 12);
        fault("owe ($(((((((((", 5);
    }

    private static void tooEarly() {
        Checks.sentence("the length, if it ends too early; NONE without.");
        String whole = "may not [1=(2+3)*4 or week>1];";
        for (int n = 1; n < whole.length(); n++) {
            String text = whole.substring(0, n);
            boolean cutWord = text.matches("m|ma|.* (n|no|o|w|we|wee)");
            int place = text.lastIndexOf(' ') + 1;
            fault(text, cutWord ? place : n);
        }
        fault(whole, -1);
        fault("owe   ", 6);
        fault("owe\n", 4);
        fault("owe 1  ", 7);
        fault("owe 1;  ", -1);
        fault("owe 1; wage 1", 13);
        fault("owe 10000", 4);
    }

    private static void sheets() {
        Checks.sentence("A TEXT without one becomes a SHEET (at most 8)");
        WheelLand x = new WheelLand();
        for (int k = 0; k < 8; k++) {
            Checks.write(x, "owe " + k + ";");
            Checks.due("sheet", x.sheet(), k);
            Checks.due("SHEETS", x.count(4), k + 1);
            Checks.due("bytes", x.count(6), 0);
        }
        Checks.write(x, "owe 8;");
        Checks.due("fault", x.fault(), -1);
        Checks.due("the ninth", x.sheet(), -1);
        Checks.due("SHEETS", x.count(4), 8);
        Checks.due("bytes", x.count(6), 6);
        Checks.due("force of the ninth", x.force(8, 0), -1);
        Checks.due("force of the eighth", x.force(7, 0), 1);
        WheelLand y = new WheelLand();
        Checks.due("sheet of an empty TEXT", y.sheet(), 0);
        Checks.due("another of an empty TEXT", y.sheet(), 1);
        Checks.due("force of an empty SHEET", y.force(0, 0), 1);
        Checks.due("why of an empty SHEET", y.why(0, 0), -1);
    }

    private static void sheetWithFault() {
        Checks.sentence("A SHEET comes of the TEXT, which is empty then: its number; NONE with a FAULT (it stays), or if 8 came.");
        WheelLand x = new WheelLand();
        Checks.write(x, "owe 1");
        Checks.due("sheet", x.sheet(), -1);
        Checks.due("bytes", x.count(6), 5);
        Checks.due("fault", x.fault(), 5);
        Checks.due("feed behind it", x.feed(0x3b202020, 0x20202020, 0x20202020, 0x20202020, 0x20202020), 25);
        Checks.due("sheet", x.sheet(), 0);
        Checks.due("bytes", x.count(6), 0);
        Checks.due("feed of an empty one", x.feed(0x3b202020, 0x20202020, 0x20202020, 0x20202020, 0x20202020), 20);
        Checks.due("fault", x.fault(), 0);
    }

    private static WheelLand twoSheets() {
        WheelLand x = new WheelLand();
        Checks.write(x, "owe 1; wage 1;");
        x.sheet();
        Checks.write(x, "wage 2;");
        x.sheet();
        return x;
    }

    private static void forcedFrom() {
        Checks.sentence("put IN FORCE from a WEEK on (NOW or later)");
        WheelLand x = twoSheets();
        Checks.due("force(0, -1)", x.force(0, -1), -1);
        Checks.due("force(0, 156)", x.force(0, 156), -1);
        Checks.due("force(-1, 0)", x.force(-1, 0), -1);
        Checks.due("force(2, 0)", x.force(2, 0), -1);
        Checks.due("force(0, 155)", x.force(0, 155), 1);
        Checks.due("force(0, 0)", x.force(0, 0), 2);
        x.go(5);
        Checks.due("force ahead of NOW", x.force(1, 4), -1);
        Checks.due("why(1, 4)", x.why(1, 4), 0);
        Checks.due("force NOW", x.force(1, 5), 3);
        Checks.due("why(1, 4)", x.why(1, 4), 0);
        Checks.due("why(1, 5)", x.why(1, 5), 1);
        Checks.due("why(1, 154)", x.why(1, 154), 1);
        Checks.due("why(1, 155)", x.why(1, 155), 0);
        for (int k = 0; k < 6; k++) {
            x.go(25);
        }
        Checks.due("force at 155", x.force(1, 155), 4);
        x.go(1);
        Checks.due("force at 156", x.force(1, 155), -1);
        Checks.due("force at 156", x.force(1, 156), -1);
    }

    private static void twelveTimes() {
        Checks.sentence("12 times at most");
        WheelLand x = twoSheets();
        for (int k = 1; k <= 12; k++) {
            Checks.due("force", x.force(k % 2, k), k);
        }
        Checks.due("force 13", x.force(1, 155), -1);
        Checks.due("force 13", x.force(0, 0), -1);
        Checks.due("why(1, 0)", x.why(1, 0), -1);
        Checks.due("why(1, 11)", x.why(1, 11), 1);
        Checks.due("why(1, 12)", x.why(1, 12), 0);
        Checks.due("why(1, 155)", x.why(1, 155), 0);
    }

    private static void latestWeek() {
        Checks.sentence("that of the SHEET counts that has it and is IN FORCE since the latest WEEK up to it");
        WheelLand x = twoSheets();
        x.force(0, 20);
        x.force(1, 10);
        int[][] want = {{9, -1, -1}, {10, -1, 1}, {19, -1, 1}, {20, 0, 0}, {21, 0, 0}, {155, 0, 0}};
        for (int[] w : want) {
            Checks.due("why(0, " + w[0] + ")", x.why(0, w[0]), w[1]);
            Checks.due("why(1, " + w[0] + ")", x.why(1, w[0]), w[2]);
        }
        x.force(1, 30);
        // the later one has no owe: the one ahead of it counts on
        Checks.due("why(0, 30)", x.why(0, 30), 0);
        Checks.due("why(1, 29)", x.why(1, 29), 0);
        Checks.due("why(1, 30)", x.why(1, 30), 1);
    }

    private static void putLater() {
        Checks.sentence("of like ones the one put later");
        WheelLand x = twoSheets();
        x.force(0, 10);
        x.force(1, 10);
        Checks.due("why(1, 10)", x.why(1, 10), 1);
        Checks.due("why(0, 10)", x.why(0, 10), 0);
        x.force(0, 10);
        Checks.due("why(1, 10)", x.why(1, 10), 0);
        x.force(1, 9);
        Checks.due("why(1, 9)", x.why(1, 9), 1);
        Checks.due("why(1, 10), put earlier", x.why(1, 10), 0);
    }

    private static void whyOf() {
        Checks.sentence("in a WEEK (0 .. 155); NONE if none, or none such.");
        WheelLand x = new WheelLand();
        Checks.enforce(x, "owe 1; wage 1; duty 1; may 1=1; stamp 1=1;", 0);
        for (int clause = 0; clause <= 4; clause++) {
            Checks.due("why(" + clause + ", 0)", x.why(clause, 0), 0);
            Checks.due("why(" + clause + ", 155)", x.why(clause, 155), 0);
            Checks.due("why(" + clause + ", -1)", x.why(clause, -1), -1);
            Checks.due("why(" + clause + ", 156)", x.why(clause, 156), -1);
            Checks.due("why(" + clause + ", most)", x.why(clause, Integer.MAX_VALUE), -1);
        }
        for (int clause : new int[] {-1, 5, Integer.MIN_VALUE, Integer.MAX_VALUE}) {
            Checks.due("why(" + clause + ", 5)", x.why(clause, 5), -1);
        }
        x.go(26);
        Checks.due("why of a WEEK that ended", x.why(0, 0), 0);
    }

    /** One house spins 10 hanks of COUNT 10, house 1 weaves; a mill yard is there, NOW is 1. */
    private static WheelLand land(String text) {
        WheelLand x = new WheelLand();
        x.village(10203040, 5, 100);
        x.house(0, 2504);
        x.house(0, 321);
        x.loom(1, 1020, 20);
        x.mill(0, 9);
        x.coins(0, 100);
        if (!text.isEmpty()) {
            Checks.enforce(x, text, 1);
        }
        x.go(1);
        return x;
    }

    private static void withoutAny() {
        Checks.sentence("Without any: owe 0, wage 1, duty 0; may and stamp hold.");
        String[] texts = {
            "", "wage 5; duty 5; may 1=2; stamp 1=2;", "owe 5; duty 5; may 1=1; stamp 1=2;",
            "owe 5; wage 5; may 1=1; stamp 1=2;", "owe 5; wage 5; duty 5; stamp 1=2;", "owe 5; wage 5; duty 5; may 1=1;"};
        for (int k = 0; k < texts.length; k++) {
            WheelLand x = land(texts[k]);
            boolean none = texts[k].isEmpty();
            boolean mayNot = texts[k].contains("may 1=2");
            Checks.due("may of '" + texts[k] + "'", x.bar(1, 0, 4), mayNot ? 5 : 0);
            Checks.due("wage of '" + texts[k] + "'", x.keeps(1, 1), none || k == 2 ? 1 : 5);
            if (!mayNot) {
                Checks.due("weave", x.weave(1, 0, 4), 0);
                Checks.due("wage of '" + texts[k] + "'", x.has(1, 5), none || k == 2 ? 1 : 5);
                Checks.due("stamp of '" + texts[k] + "'", x.cloth(0, 4), none || k == 5 ? 1 : 0);
            }
            x.go(12);
            Checks.due("owe of '" + texts[k] + "'", x.due(0, 0), none || k == 1 ? 0 : 5);
            // HEADS 4 buy in WEEKS 0, 4, 8 and 12; in WEEK 0 nothing is IN FORCE
            Checks.due("duty of '" + texts[k] + "'", x.count(9), none || k == 3 ? 0 : 15);
        }
    }

    private static void namesNotTold() {
        Checks.sentence("All others are 0 where they aren't told");
        String[] ofOwe = {"other", "count", "strength", "hanks", "far", "price"};
        for (String name : ofOwe) {
            WheelLand x = land("owe 7+" + name + "*100;");
            x.go(12);
            Checks.due("owe by " + name, x.due(0, 0), 7);
        }
        String[] ofDuty = {
            "heads", "wheels", "skill", "caste", "other", "count", "strength", "hanks", "idle", "far"};
        for (String name : ofDuty) {
            WheelLand x = land("duty 3+" + name + "*10;");
            x.weave(1, 0, 4);
            x.keeps(0, 1);
            x.go(4);
            Checks.due("duty by " + name, x.count(9), 3);
        }
        WheelLand x = land("wage 7+price*100; may price=0; stamp price=0;");
        Checks.due("likes, which asks a price", x.likes(0), 1);
        Checks.due("weave", x.weave(1, 0, 4), 0);
        Checks.due("wage by price", x.has(1, 5), 7);
        Checks.due("stamp by price", x.cloth(0, 4), 1);
        Checks.due("keeps by price", x.keeps(1, 1), 7);
    }
}
