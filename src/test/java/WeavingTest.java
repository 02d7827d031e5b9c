/** Promises 20 to 22: bars, weaving and the lead of cloth. */
public final class WeavingTest {
    public static void main(String[] args) {
        bars();
        strengths();
        mayByNames();
        weaving();
        wages();
        oneHouse();
        twoHundred();
        Checks.finish("WeavingTest");
    }

    /** House 0 spins 158 hanks of count 4 a week; house 1 weaves 4 .. 20, house 2 far off, house 3 without a loom. */
    private static WheelLand land() {
        WheelLand x = new WheelLand();
        x.village(40404040, 9, 9999);
        x.village(40404040, 9, 9999);
        x.house(0, 5924);
        x.house(0, 131);
        x.house(1, 141);
        x.house(0, 151);
        x.aim(0, 4);
        x.loom(1, 420, 40);
        x.loom(2, 520, 40);
        x.go(1);
        return x;
    }

    private static void bars() {
        WheelLand x = land();
        Checks.due("bar(1, 0, 2)", x.bar(1, 0, 2), 0);
        Checks.due("bar(1, 0, 40)", x.bar(1, 0, 40), 0);
        Checks.due("bar(1, 0, 42)", x.bar(1, 0, 42), 7);
        Checks.due("bar(1, 0, 100)", x.bar(1, 0, 100), 7);
        int[] wrong = {0, 1, 3, 99, 101, 102, -2, Integer.MIN_VALUE, Integer.MAX_VALUE};
        for (int n : wrong) {
            Checks.due("bar(1, 0, " + n + ")", x.bar(1, 0, n), -1);
            Checks.due("weave(1, 0, " + n + ")", x.weave(1, 0, n), -1);
        }
        Checks.due("bar(4, 0, 2)", x.bar(4, 0, 2), -1);
        Checks.due("bar(-1, 0, 2)", x.bar(-1, 0, 2), -1);
        Checks.due("bar(1, 1, 2)", x.bar(1, 1, 2), -1);
        Checks.due("bar(1, -1, 2)", x.bar(1, -1, 2), -1);
        Checks.due("without a loom", x.bar(3, 0, 2), 1);
        Checks.due("count below the loom's", x.bar(2, 0, 2), 2);
        x.aim(0, 21);
        x.go(1);
        Checks.due("count above the loom's", x.bar(1, 1, 2), 2);
        x.aim(0, 20);
        x.go(1);
        Checks.due("count of the loom", x.bar(1, 2, 2), 0);
        Checks.due("without a way", x.bar(2, 2, 2), 4);
        x.road(0, 1, 9);
        Checks.due("with a way", x.bar(2, 2, 2), 0);
        x.pay(0, 0, 118);
        Checks.due("fewer left, ahead of the loom", x.bar(1, 0, 42), 6);
        Checks.due("as many left", x.bar(1, 0, 40), 0);
        x.weave(1, 2, 2);
        Checks.due("less left in the week", x.bar(1, 0, 40), 7);
        Checks.due("as much left in the week", x.bar(1, 0, 38), 0);
        x.go(1);
        Checks.due("the week behind", x.bar(1, 0, 40), 0);
        Checks.enforce(x, "may hanks<4;", 4);
        Checks.due("may ahead of hanks left", x.bar(1, 0, 42), 5);
        Checks.due("may of 2", x.bar(1, 0, 2), 0);
        Checks.due("may of 4", x.bar(1, 0, 4), 5);
        Checks.due("weave with a bar", x.weave(1, 0, 4), -1);
    }

    private static int barByStrength(int staple, int skill, int aim) {
        WheelLand x = new WheelLand();
        x.village(40404040, staple, 9999);
        x.house(0, 5013 + skill * 100);
        x.loom(0, 460, 40);
        x.aim(0, aim);
        x.go(1);
        return x.bar(0, 0, 2);
    }

    private static void strengths() {
        Checks.due("60 + 12 - 28 of 14 and 30", barByStrength(3, 4, 14), 0);
        Checks.due("20 + 27 - 12 of 6 and 30", barByStrength(1, 9, 6), 3);
        Checks.due("20 + 27 - 10 of 5 and 30", barByStrength(1, 9, 5), 0);
        Checks.due("60 + 12 - 30 of 15 and 30", barByStrength(3, 4, 15), 3);
        Checks.due("100 + 6 - 50 of 25 and 30", barByStrength(5, 2, 25), 0);
        Checks.due("100 + 6 - 52 of 26 and 30", barByStrength(5, 2, 26), 3);
        WheelLand x = new WheelLand();
        x.village(40404040, 2, 9999);
        x.village(0, 2, 0);
        x.house(0, 5113);
        x.house(1, 113);
        x.loom(1, 460, 40);
        x.aim(0, 4);
        x.go(1);
        x.aim(0, 5);
        x.go(1);
        Checks.due("too weak, ahead of no way", x.bar(1, 1, 2), 3);
        Checks.due("strong enough, no way", x.bar(1, 0, 2), 4);
    }

    private static void mayByNames() {
        String[] holds = {
            "week=1", "season=0", "heads=4", "wheels=5", "skill=9", "caste=2", "other=5", "count=4",
            "strength=199", "hanks=6", "idle=40", "far=9", "price=0"};
        for (String text : holds) {
            Checks.due("bar by " + text, barFarOff("may " + text + ";"), 0);
            Checks.due("bar by not " + text, barFarOff("may not " + text + ";"), 5);
        }
    }

    private static int barFarOff(String text) {
        WheelLand x = land();
        x.village(0, 1, 1);
        x.road(0, 1, 5);
        x.road(1, 2, 4);
        x.house(2, 151);
        x.loom(4, 460, 7);
        Checks.enforce(x, text, 1);
        return x.bar(4, 0, 6);
    }

    private static void weaving() {
        WheelLand x = land();
        Checks.enforce(x, "wage hanks+other*100; stamp hanks>10;", 1);
        Checks.due("weave(3, 0, 2)", x.weave(3, 0, 2), -1);
        Checks.due("weave(4, 0, 2)", x.weave(4, 0, 2), -1);
        Checks.due("weave(1, 1, 2)", x.weave(1, 1, 2), -1);
        Checks.due("count(5)", x.count(5), 0);
        Checks.due("weave(1, 0, 12)", x.weave(1, 0, 12), 0);
        Checks.due("left", x.lot(0, 5), 146);
        Checks.due("hanks stay", x.lot(0, 4), 158);
        Checks.due("purse that pays", x.has(0, 5), -312);
        Checks.due("purse that gets", x.has(1, 5), 312);
        Checks.due("woven", x.has(1, 10), 12);
        x.go(1);
        Checks.due("woven in all", x.told(1, 4), 12);
        x.go(1);
        Checks.due("woven in this week", x.has(1, 10), 0);
        Checks.due("weave(1, 1, 10)", x.weave(1, 1, 10), 1);
        Checks.due("weave(1, 0, 32)", x.weave(1, 0, 32), -1);
        int[] first = {0, 1, 1, 6, 1, 0, 0, -1, -1};
        int[] second = {1, 1, 3, 5, 0, 0, 1, -1, -1};
        for (int what = 0; what <= 8; what++) {
            Checks.due("cloth(0, " + what + ")", x.cloth(0, what), first[what]);
            Checks.due("cloth(1, " + what + ")", x.cloth(1, what), second[what]);
        }
        Checks.due("cloth(0, -1)", x.cloth(0, -1), -1);
        Checks.due("cloth(2, 0)", x.cloth(2, 0), -1);
        Checks.due("cloth(-1, 0)", x.cloth(-1, 0), -1);
        Checks.due("count(5)", x.count(5), 2);
        for (int k = 0; k < 6; k++) {
            x.go(26);
        }
        Checks.due("bar at 156", x.bar(1, 0, 2), 0);
        Checks.due("weave at 156", x.weave(1, 0, 2), -1);
        Checks.due("left at 156", x.lot(0, 5), 146);
    }

    /** The wage of 2 hanks by a text, as house 0 weaves its own to house 1's loom. */
    private static int wage(String text) {
        WheelLand x = land();
        if (!text.isEmpty()) {
            Checks.enforce(x, text, 1);
        }
        x.weave(1, 0, 2);
        Checks.due("both purses by " + text, x.has(0, 5), -x.has(1, 5));
        return x.has(1, 5);
    }

    private static void wages() {
        Checks.due("wage without a text", wage(""), 1);
        Checks.due("wage of another clause", wage("duty 5;"), 1);
        Checks.due("wage below 0", wage("wage 0-5;"), 0);
        Checks.due("precedence", wage("wage 2+3*4-1;"), 13);
        Checks.due("from the left", wage("wage 20-5-3;"), 12);
        Checks.due("from the left", wage("wage 100/5/2*3;"), 30);
        Checks.due("( )", wage("wage (2+3)*(4-1);"), 15);
        Checks.due("cut toward 0", wage("wage 100+(0-7)/2;"), 97);
        Checks.due("by 0", wage("wage 7+5/0;"), 7);
        Checks.due("by what is 0", wage("wage 7+5/season;"), 7);
        Checks.due("brought down", wage("wage 9999*9999;"), 1000000);
        Checks.due("brought down at each step", wage("wage 9999*9999-1;"), 999999);
        Checks.due("brought down of +", wage("wage 1000*1000+5-6;"), 999994);
        Checks.due("brought up of *", wage("wage (0-9999)*9999+1000*1000+4;"), 4);
        Checks.due("brought up of -", wage("wage (0-1000*1000-5)+1000*1000+3;"), 3);
        Checks.due("great factors", wage("wage 9999*9999*9999;"), 1000000);
        Checks.due("below by great factors", wage("wage 7+9999*9999*(0-9999)+1000*1000;"), 7);
        Checks.due("names", wage("wage week+season+heads*10+wheels*100+skill*1000+caste*5000;"), 19541);
        Checks.due("names", wage("wage other+count*10+strength*100+hanks+idle*1000+far+price;"), 59945);
        Checks.due("or, and", ands("may 1=2 and 1=1 or 1=1;"), 1);
        Checks.due("or, and", ands("may 1=1 or 1=1 and 1=2;"), 1);
        Checks.due("[ ]", ands("may [1=1 or 1=1] and 1=2;"), 0);
        Checks.due("not", ands("may not 1=1 or 1=1;"), 1);
        Checks.due("not [ ]", ands("may not [1=1 or 1=1];"), 0);
        Checks.due("not not", ands("may not not 1=1;"), 1);
        Checks.due("and of both", ands("may 1=1 and 2=2;"), 1);
        Checks.due("or of none", ands("may 1=2 or 2=1;"), 0);
        Checks.due("<", ands("may 1<2;"), 1);
        Checks.due("< of like ones", ands("may 2<2;"), 0);
        Checks.due(">", ands("may 2>1;"), 1);
        Checks.due("> of like ones", ands("may 2>2;"), 0);
        Checks.due("=", ands("may 2=1+1;"), 1);
        Checks.due("= of others", ands("may 2=1;"), 0);
    }

    private static int ands(String text) {
        WheelLand x = land();
        Checks.enforce(x, text, 1);
        return x.bar(1, 0, 2) == 0 ? 1 : 0;
    }

    private static void oneHouse() {
        WheelLand x = land();
        x.loom(0, 404, 6);
        Checks.enforce(x, "wage 9; stamp other=caste and far=0;", 1);
        Checks.due("weave its own", x.weave(0, 0, 6), 0);
        Checks.due("purse", x.has(0, 5), 0);
        Checks.due("stamped", x.cloth(0, 4), 1);
        Checks.due("who wove", x.cloth(0, 1), 0);
        Checks.due("weave another's caste", x.weave(1, 0, 6), 1);
        Checks.due("not stamped", x.cloth(1, 4), 0);
        Checks.due("weave more", x.weave(1, 0, 10), 2);
        Checks.due("woven in this week", x.has(1, 10), 16);
        x.go(1);
        Checks.due("woven in the week behind", x.has(0, 10), 0);
        Checks.due("woven in all", x.told(1, 4), 22);
        Checks.due("weave its own again", x.weave(0, 0, 6), 3);
        WheelLand y = land();
        y.weave(1, 0, 2);
        Checks.due("stamped without a text", y.cloth(0, 4), 1);
    }

    private static void twoHundred() {
        WheelLand x = land();
        for (int k = 0; k < 200; k++) {
            if (x.bar(1, 0, 2) != 0) {
                x.go(1);
            }
            Checks.due("cloth " + k, x.weave(1, k / 50, 2), k);
            if (k % 20 == 19) {
                x.go(1);
            }
        }
        Checks.due("bar(1, 4, 2)", x.bar(1, 4, 2), 0);
        Checks.due("cloth 201", x.weave(1, 4, 2), -1);
        Checks.due("count(5)", x.count(5), 200);
        Checks.due("left", x.lot(4, 5), 158);
    }
}
