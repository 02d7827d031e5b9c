/** 'Terms', part 4 (WEAVING), and promises 20 to 22: each sentence that names a bound or a case at its edge. */
public final class WeavingEdgesTest {
    public static void main(String[] args) {
        evenHanks();
        noneSuch();
        firstBar();
        countOfTheLoom();
        strongEnough();
        wayByRoads();
        mayHolds();
        hanksLeft();
        leftInTheWeek();
        yards();
        stampHolds();
        wageOnce();
        wageNoLess();
        pursesBelow();
        twoHundred();
        lead();
        behindTheLastWeek();
        Checks.finish("WeavingEdgesTest");
    }

    /**
     * Houses 0 (village 0, STAPLE 9) and 1 (village 1, STAPLE 1) spin 106 and 101 hanks of COUNT 10; looms
     * in village 0: house 2 none, 3 of 11 .. 60, 4 of 4 .. 60 and 40 hanks, 5 of 10 .. 10 and 6 hanks.
     */
    private static WheelLand land() {
        WheelLand x = new WheelLand();
        x.village(40404040, 9, 9999);
        x.village(40404040, 1, 9999);
        x.house(0, 5634);
        x.house(1, 5511);
        for (int k = 2; k <= 5; k++) {
            x.house(0, 151);
        }
        x.loom(3, 1160, 40);
        x.loom(4, 460, 40);
        x.loom(5, 1010, 6);
        x.go(1);
        Checks.due("HANKS of lot 0", x.lot(0, 4), 106);
        Checks.due("HANKS of lot 1", x.lot(1, 4), 100);
        return x;
    }

    private static void evenHanks() {
        Checks.sentence("NONE if there are none such, or n isn't even, 2 .. 100.");
        WheelLand x = land();
        for (int n = -4; n <= 106; n++) {
            boolean can = n >= 2 && n <= 100 && n % 2 == 0;
            Checks.due("bar(4, 0, " + n + ")", x.bar(4, 0, n), can ? n <= 40 ? 0 : 7 : -1);
        }
        for (int n : new int[] {-2, -1, 0, 1, 3, 39, 41, 99, 101, 102, Integer.MIN_VALUE, Integer.MAX_VALUE}) {
            Checks.due("weave(4, 0, " + n + ")", x.weave(4, 0, n), -1);
            Checks.due("bar(2, 0, " + n + ")", x.bar(2, 0, n), n == 102 || n < 2 || n % 2 != 0 ? -1 : 1);
        }
        Checks.due("CLOTHS", x.count(5), 0);
        Checks.due("LEFT", x.lot(0, 5), 106);
        Checks.due("weave(4, 0, 2)", x.weave(4, 0, 2), 0);
        Checks.due("weave(4, 0, 38)", x.weave(4, 0, 38), 1);
    }

    private static void noneSuch() {
        Checks.sentence("NONE if there are none such");
        WheelLand x = land();
        for (int house : new int[] {-1, 6, 20, Integer.MIN_VALUE, Integer.MAX_VALUE}) {
            Checks.due("bar(" + house + ", 0, 2)", x.bar(house, 0, 2), -1);
            Checks.due("weave(" + house + ", 0, 2)", x.weave(house, 0, 2), -1);
        }
        for (int lot : new int[] {-1, 2, 300, Integer.MIN_VALUE, Integer.MAX_VALUE}) {
            Checks.due("bar(4, " + lot + ", 2)", x.bar(4, lot, 2), -1);
            Checks.due("weave(4, " + lot + ", 2)", x.weave(4, lot, 2), -1);
        }
        Checks.due("CLOTHS", x.count(5), 0);
    }

    /** Each bar stands with all that come behind it, and goes with what it needs. */
    private static void firstBar() {
        Checks.sentence("the BAR, the first of these");
        WheelLand x = land();
        x.pay(0, 0, 105);
        x.pay(0, 1, 99);
        Checks.enforce(x, "may 1=2;", 1);
        Checks.due("without a LOOM, and all others", x.bar(2, 1, 42), 1);
        Checks.due("COUNT, and all others", x.bar(3, 1, 42), 2);
        Checks.due("STRENGTH, and all others", x.bar(4, 1, 42), 3);
        Checks.due("may, fewer LEFT, and the LOOM", x.bar(4, 0, 42), 5);
        Checks.enforce(x, "may 1=1;", 1);
        Checks.due("fewer LEFT, and the LOOM", x.bar(4, 0, 42), 6);
        Checks.due("fewer LEFT", x.bar(4, 0, 2), 6);
        WheelLand y = new WheelLand();
        y.village(40404040, 9, 9999);
        y.village(0, 9, 0);
        y.house(0, 5634);
        y.house(1, 111);
        y.loom(1, 460, 40);
        y.go(1);
        y.pay(0, 0, 105);
        Checks.enforce(y, "may 1=2;", 1);
        Checks.due("no way, may, fewer LEFT, and the LOOM", y.bar(1, 0, 42), 4);
        y.road(0, 1, 1);
        Checks.due("may, fewer LEFT, and the LOOM", y.bar(1, 0, 42), 5);
    }

    private static void countOfTheLoom() {
        Checks.sentence("2 the COUNT isn't of the LOOM");
        int[][] all = {{10, 0}, {9, 2}, {11, 2}, {4, 2}, {60, 2}};
        for (int[] w : all) {
            WheelLand x = land();
            x.aim(0, w[0]);
            x.go(1);
            Checks.due("BAR of COUNT " + w[0] + " by 10 .. 10", x.bar(5, 2, 2), w[1]);
        }
        WheelLand x = land();
        x.aim(0, 11);
        x.go(1);
        Checks.due("BAR of COUNT 11 by 11 .. 60", x.bar(3, 2, 2), 0);
        Checks.due("BAR of COUNT 10 by 11 .. 60", x.bar(3, 0, 2), 2);
        Checks.due("weave", x.weave(3, 0, 2), -1);
    }

    private static void strongEnough() {
        Checks.sentence("3 STRENGTH is below COUNT and 30");
        // STAPLE 1: 20 and three times SKILL less two times AIM against AIM and 30
        int[][] all = {{9, 5, 0}, {9, 6, 3}, {8, 4, 0}, {8, 5, 3}, {7, 4, 3}};
        for (int[] w : all) {
            WheelLand x = new WheelLand();
            x.village(40404040, 1, 99);
            x.house(0, 5011 + 100 * w[0]);
            x.loom(0, 460, 40);
            x.aim(0, w[1]);
            x.go(1);
            Checks.due("BAR of SKILL " + w[0] + " and COUNT " + w[1], x.bar(0, 0, 2), w[2]);
            Checks.due("weave", x.weave(0, 0, 2), w[2] == 0 ? 0 : -1);
        }
        WheelLand x = new WheelLand();
        x.village(40404040, 9, 99);
        x.house(0, 5911);
        x.loom(0, 460, 40);
        x.aim(0, 59);
        x.go(1);
        x.aim(0, 60);
        x.go(1);
        Checks.due("BAR of STRENGTH 89 and COUNT 59", x.bar(0, 0, 2), 0);
        Checks.due("BAR of STRENGTH 87 and COUNT 60", x.bar(0, 1, 2), 3);
    }

    private static void wayByRoads() {
        Checks.sentence("4 there is no way by ROADS");
        WheelLand x = new WheelLand();
        x.village(40404040, 9, 9999);
        x.village(0, 9, 0);
        x.village(0, 9, 0);
        x.house(0, 5634);
        x.house(2, 111);
        x.loom(0, 460, 40);
        x.loom(1, 460, 40);
        x.go(1);
        Checks.due("BAR in one VILLAGE", x.bar(0, 0, 2), 0);
        Checks.due("BAR without a way", x.bar(1, 0, 2), 4);
        x.road(0, 1, 9);
        Checks.due("BAR without a way on", x.bar(1, 0, 2), 4);
        x.road(2, 1, 9);
        Checks.due("BAR by two ROADS", x.bar(1, 0, 2), 0);
    }

    private static void mayHolds() {
        Checks.sentence("5 may doesn't hold");
        WheelLand x = land();
        Checks.enforce(x, "may hanks<6 and hanks>2;", 1);
        Checks.enforce(x, "may not 1=1;", 2);
        Checks.due("BAR of 2", x.bar(4, 0, 2), 5);
        Checks.due("BAR of 4", x.bar(4, 0, 4), 0);
        Checks.due("BAR of 6", x.bar(4, 0, 6), 5);
        Checks.due("weave(4, 0, 6)", x.weave(4, 0, 6), -1);
        Checks.due("weave(4, 0, 4)", x.weave(4, 0, 4), 0);
        x.go(1);
        Checks.due("BAR of 4 in the WEEK behind", x.bar(4, 0, 4), 5);
        WheelLand y = land();
        Checks.enforce(y, "may other=5 and caste=3 and far=0 and count=10 and strength=178 and week=1;", 1);
        Checks.due("BAR by its NAMES", y.bar(4, 0, 2), 0);
    }

    private static void hanksLeft() {
        Checks.sentence("6 there are fewer HANKS LEFT");
        for (int left = 0; left <= 6; left++) {
            WheelLand x = land();
            x.pay(0, 0, 106 - left);
            Checks.due("LEFT", x.lot(0, 5), left);
            for (int n = 2; n <= 8; n += 2) {
                Checks.due("BAR of " + n + " of " + left, x.bar(4, 0, n), n <= left ? 0 : 6);
            }
            Checks.due("weave(4, 0, 4) of " + left, x.weave(4, 0, 4), left >= 4 ? 0 : -1);
            Checks.due("LEFT", x.lot(0, 5), left >= 4 ? left - 4 : left);
        }
    }

    private static void leftInTheWeek() {
        Checks.sentence("7 the LOOM has less left in this WEEK.");
        WheelLand x = land();
        Checks.due("BAR of 6 by 6", x.bar(5, 0, 6), 0);
        Checks.due("BAR of 8 by 6", x.bar(5, 0, 8), 7);
        Checks.due("weave(5, 0, 8)", x.weave(5, 0, 8), -1);
        Checks.due("weave(5, 0, 2)", x.weave(5, 0, 2), 0);
        Checks.due("BAR of 6 by 4", x.bar(5, 0, 6), 7);
        Checks.due("BAR of 4 by 4", x.bar(5, 0, 4), 0);
        Checks.due("weave(5, 0, 4)", x.weave(5, 0, 4), 1);
        Checks.due("BAR of 2 by 0", x.bar(5, 0, 2), 7);
        Checks.due("woven in this WEEK", x.has(5, 10), 6);
        Checks.due("BAR of another LOOM", x.bar(4, 0, 40), 0);
        x.go(1);
        Checks.due("woven in this WEEK", x.has(5, 10), 0);
        Checks.due("BAR of 6 in the WEEK behind", x.bar(5, 0, 6), 0);
        WheelLand y = new WheelLand();
        y.village(40404040, 9, 9999);
        y.house(0, 5634);
        y.loom(0, 460, 3);
        y.go(1);
        Checks.due("BAR of 2 by 3", y.bar(0, 0, 2), 0);
        Checks.due("BAR of 4 by 3", y.bar(0, 0, 4), 7);
        y.weave(0, 0, 2);
        Checks.due("BAR of 2 by 1", y.bar(0, 0, 2), 7);
        y.go(1);
        Checks.due("woven in this WEEK by the first HOUSE", y.has(0, 10), 0);
        Checks.due("BAR of 2 in the WEEK behind", y.bar(0, 0, 2), 0);
    }

    private static void yards() {
        Checks.sentence("2 HANKS a YARD (only an even number is woven)");
        WheelLand x = land();
        Checks.due("weave", x.weave(4, 0, 2), 0);
        Checks.due("YARDS", x.cloth(0, 3), 1);
        x.go(1);
        Checks.due("weave", x.weave(4, 0, 40), 1);
        Checks.due("YARDS", x.cloth(1, 3), 20);
        Checks.due("LEFT", x.lot(0, 5), 64);
        Checks.due("HANKS", x.lot(0, 4), 106);
        x.go(1);
        Checks.due("told(0, 4)", x.told(0, 4), 0);
        Checks.due("told(1, 4)", x.told(1, 4), 2);
        Checks.due("told(2, 4)", x.told(2, 4), 42);
        Checks.due("weave of an odd number", x.weave(4, 0, 3), -1);
    }

    private static void stampHolds() {
        Checks.sentence("STAMPED, if stamp holds");
        WheelLand x = land();
        Checks.enforce(x, "stamp hanks>2 and other=5;", 1);
        x.weave(4, 0, 2);
        x.weave(4, 0, 4);
        Checks.due("STAMPED of 2", x.cloth(0, 4), 0);
        Checks.due("STAMPED of 4", x.cloth(1, 4), 1);
        x.go(1);
        Checks.enforce(x, "stamp 1=2;", 2);
        x.weave(4, 0, 4);
        Checks.due("STAMPED by another text", x.cloth(2, 4), 0);
        Checks.due("STAMPED stays", x.cloth(1, 4), 1);
    }

    private static void wageOnce() {
        Checks.sentence("the HOUSE of the LOT pays wage (asked once for all these HANKS; 0 at least) to who weaves.");
        WheelLand x = land();
        Checks.enforce(x, "wage 100/hanks;", 1);
        x.weave(4, 0, 40);
        Checks.due("PURSE of who weaves", x.has(4, 5), 2);
        Checks.due("PURSE of who spun", x.has(0, 5), -2);
        x.weave(5, 0, 2);
        Checks.due("PURSE of the other who weaves", x.has(5, 5), 50);
        Checks.due("PURSE of who spun", x.has(0, 5), -52);
        Checks.due("PURSE of one beside", x.has(1, 5), 0);
    }

    private static void wageNoLess() {
        Checks.sentence("wage (asked once for all these HANKS; 0 at least)");
        int[][] all = {{0, 0}, {4, 0}, {5, 0}, {6, 1}, {1005, 1000}};
        for (int[] w : all) {
            WheelLand x = land();
            Checks.enforce(x, "wage " + w[0] + "-5;", 1);
            Checks.due("weave", x.weave(4, 0, 2), 0);
            Checks.due("wage " + w[0] + " less 5", x.has(4, 5), w[1]);
            Checks.due("PURSE of who spun", x.has(0, 5), -w[1]);
        }
    }

    private static void pursesBelow() {
        Checks.sentence("a PURSE (coins; 0 at first, may be below)");
        WheelLand x = land();
        Checks.enforce(x, "wage 9999*9999;", 1);
        for (int k = 0; k < 3; k++) {
            Checks.due("weave", x.weave(5, 0, 2), k);
        }
        Checks.due("PURSE of who spun", x.has(0, 5), -3000000);
        Checks.due("PURSE of who weaves", x.has(5, 5), 3000000);
        x.loom(0, 460, 40);
        Checks.due("weave its own", x.weave(0, 0, 2), 3);
        Checks.due("PURSE of its own", x.has(0, 5), -3000000);
    }

    private static void twoHundred() {
        Checks.sentence("CLOTH comes (numbers as they come, at most 200)");
        WheelLand x = new WheelLand();
        x.village(40404040, 9, 9999);
        x.house(0, 5921);
        x.house(0, 121);
        x.aim(0, 4);
        x.loom(1, 404, 40);
        x.go(3);
        for (int k = 0; k < 200; k++) {
            Checks.due("weave", x.weave(1, k / 78, 2), k);
            if (k % 20 == 19) {
                x.go(1);
            }
        }
        Checks.due("CLOTHS", x.count(5), 200);
        Checks.due("BAR of one more", x.bar(1, 3, 2), 0);
        Checks.due("one more", x.weave(1, 3, 2), -1);
        Checks.due("CLOTHS", x.count(5), 200);
        Checks.due("the last one", x.cloth(199, 0), 2);
        Checks.due("beyond", x.cloth(200, 0), -1);
        Checks.due("PURSE", x.has(1, 5), 200);
        Checks.due("LEFT", x.lot(3, 5), 158);
        Checks.due("woven in this WEEK", x.has(1, 10), 0);
    }

    private static void lead() {
        Checks.sentence("LEAD of CLOTH: its LOT, who spun and who wove it, in which WEEKS.");
        WheelLand x = land();
        x.go(2);
        Checks.due("weave", x.weave(4, 2, 6), 0);
        x.go(1);
        Checks.due("weave", x.weave(5, 0, 4), 1);
        int[][] want = {{2, 4, 3, 3, 1, 0, 1, -1}, {0, 5, 4, 2, 1, 0, 0, -1}};
        for (int cloth = 0; cloth < 2; cloth++) {
            for (int what = 0; what <= 7; what++) {
                Checks.due("cloth(" + cloth + ", " + what + ")", x.cloth(cloth, what), want[cloth][what]);
            }
            for (int what : new int[] {-1, 8, Integer.MIN_VALUE, Integer.MAX_VALUE}) {
                Checks.due("cloth(" + cloth + ", " + what + ")", x.cloth(cloth, what), -1);
            }
        }
        for (int cloth : new int[] {-1, 2, 200, Integer.MIN_VALUE, Integer.MAX_VALUE}) {
            for (int what = 0; what <= 7; what++) {
                Checks.due("cloth(" + cloth + ", " + what + ")", x.cloth(cloth, what), -1);
            }
        }
        x.bring(1, 0);
        Checks.due("cloth(1, 7)", x.cloth(1, 7), 0);
        Checks.due("cloth(0, 7)", x.cloth(0, 7), -1);
    }

    private static void behindTheLastWeek() {
        Checks.sentence("or NOW is 156.");
        WheelLand x = land();
        for (int k = 0; k < 5; k++) {
            x.go(26);
        }
        x.go(24);
        Checks.due("NOW", x.count(0), 155);
        Checks.due("weave NOW 155", x.weave(4, 0, 2), 0);
        Checks.due("in WEEK", x.cloth(0, 2), 155);
        x.go(1);
        Checks.due("BAR NOW 156", x.bar(4, 0, 2), 0);
        Checks.due("weave NOW 156", x.weave(4, 0, 2), -1);
        Checks.due("told(155, 4)", x.told(155, 4), 2);
        Checks.due("LEFT", x.lot(0, 5), 104);
    }
}
