/** 'Terms', part 2, and promises 10 and 11: each sentence that names a bound or a case at its edge. */
public final class WeeksEdgesTest {
    public static void main(String[] args) {
        weeksEnd();
        upToTheLast();
        buyingAheadOfWord();
        spinningAheadOfPrices();
        thirteenth();
        withWheels();
        hanksAreCut();
        notMoreThanCotton();
        begunPound();
        nothingOfNoHanks();
        threeHundred();
        twoLess();
        countIsAim();
        strengths();
        leftOfLots();
        Checks.finish("WeeksEdgesTest");
    }

    private static WheelLand spinner(int idle, int cotton, int what, int aim) {
        WheelLand x = new WheelLand();
        x.village(idle * 1010101, 5, cotton);
        x.house(0, what);
        x.aim(0, aim);
        return x;
    }

    private static void weeksEnd() {
        Checks.sentence("n WEEKS end (0 .. 26; up to 156): NOW; NONE for another n.");
        for (int n = -1; n <= 28; n++) {
            WheelLand x = spinner(40, 9999, 5911, 10);
            boolean can = n >= 0 && n <= 26;
            Checks.due("go(" + n + ")", x.go(n), can ? n : -1);
            Checks.due("NOW", x.count(0), can ? n : 0);
            Checks.due("LOTS", x.count(3), can ? n : 0);
        }
        WheelLand x = new WheelLand();
        Checks.due("go(least)", x.go(Integer.MIN_VALUE), -1);
        Checks.due("go(most)", x.go(Integer.MAX_VALUE), -1);
    }

    private static void upToTheLast() {
        Checks.sentence("n WEEKS end (0 .. 26; up to 156)");
        for (int ahead : new int[] {0, 1, 25, 26}) {
            WheelLand x = spinner(40, 9999, 5911, 10);
            for (int k = 0; k < 5; k++) {
                x.go(26);
            }
            x.go(26 - ahead);
            Checks.due("go(26) with " + ahead + " ahead", x.go(26), 156);
            Checks.due("LOTS", x.count(3), 156);
            Checks.due("CAN", x.due(0, 2), 156 * 158);
            Checks.due("go(26) at 156", x.go(26), 156);
            Checks.due("go(0) at 156", x.go(0), 156);
            Checks.due("go(27) at 156", x.go(27), -1);
            Checks.due("LOTS", x.count(3), 156);
        }
    }

    private static void buyingAheadOfWord() {
        Checks.sentence("A WEEK ends so: spinning, buying, WORD");
        WheelLand x = new WheelLand();
        x.village(40404040, 9, 9999);
        x.house(0, 5901);
        x.house(0, 102);
        x.aim(0, 4);
        x.loom(1, 404, 40);
        x.go(1);
        x.weave(1, 0, 4);
        x.bring(0, 0);
        x.mill(0, 9);
        x.coins(1, 99);
        x.price(0, 1110);
        x.go(1);
        x.talk(0, 1);
        // HEADS 2 need cloth in WEEK 2; WORD of 1 is 0 only behind buying
        x.go(1);
        Checks.due("YARDS of HAND", x.has(1, 8), 1);
        Checks.due("YARDS of MILL", x.has(1, 9), 0);
        Checks.due("WORD", x.is(0, 6), 0);
        x.go(4);
        Checks.due("YARDS of HAND without WORD", x.has(1, 8), 1);
        Checks.due("YARDS of MILL without WORD", x.has(1, 9), 1);
    }

    private static void spinningAheadOfPrices() {
        Checks.sentence("then, as the last one of a SEASON (its 13th), THE CLUB and MILL prices");
        WheelLand x = new WheelLand();
        x.village(0, 9, 0);
        x.house(0, 104);
        x.mill(0, 9);
        x.coins(0, 99);
        x.go(12);
        Checks.due("PURSE behind three yards", x.has(0, 5), 69);
        // HEADS 4 need cloth in WEEK 12, the 13th, and get it at the price of 10
        x.go(1);
        Checks.due("PURSE behind the fourth", x.has(0, 5), 59);
        Checks.due("MILL price", x.is(0, 5), 11);
        Checks.due("sold in the new SEASON", x.is(0, 10), 0);
    }

    private static void thirteenth() {
        Checks.sentence("as the last one of a SEASON (its 13th)");
        WheelLand x = spinner(0, 0, 1111, 10);
        Checks.enforce(x, "owe 1;", 0);
        for (int season = 1; season <= 12; season++) {
            x.go(12);
            Checks.due("OWES ahead of the 13th", x.due(0, 0), season - 1);
            Checks.due("MILL price ahead of the 13th", x.is(0, 5), 10 + season - 1);
            x.go(1);
            Checks.due("OWES behind the 13th", x.due(0, 0), season);
            Checks.due("MILL price behind the 13th", x.is(0, 5), 10 + season);
        }
        Checks.due("NOW", x.count(0), 156);
        x.go(26);
        Checks.due("OWES at 156", x.due(0, 0), 12);
    }

    private static void withWheels() {
        Checks.sentence("As a WEEK ends each HOUSE with WHEELS spins, by numbers");
        WheelLand x = new WheelLand();
        x.village(40404040, 5, 3);
        x.house(0, 911);
        x.house(0, 1111);
        x.house(0, 1111);
        x.house(0, 1111);
        x.go(1);
        // 40 * 11 / 30 = 14 of 3 pounds: 2 pounds, then 10 hanks of the third, then none
        Checks.due("LOTS", x.count(3), 2);
        Checks.due("the first HOUSE", x.lot(0, 0), 1);
        Checks.due("its HANKS", x.lot(0, 4), 14);
        Checks.due("the second HOUSE", x.lot(1, 0), 2);
        Checks.due("its HANKS", x.lot(1, 4), 10);
        Checks.due("COTTON", x.is(0, 0), 0);
        Checks.due("CAN without WHEELS", x.due(0, 2), 0);
    }

    private static int spun(int idle, int cotton, int what, int aim) {
        WheelLand x = spinner(idle, cotton, what, aim);
        x.go(1);
        Checks.due("told(0, 1)", x.told(0, 1), Math.max(0, x.lot(0, 4)));
        return x.lot(0, 4);
    }

    private static void hanksAreCut() {
        Checks.sentence("HANKS are HOURS times 10 and SKILL by AIM and 20 (cut)");
        Checks.due("30 by 30", spun(2, 999, 1511, 10), 1);
        Checks.due("59 by 30", spun(5, 999, 1211, 10), 2);
        Checks.due("12 by 24", spun(1, 999, 1211, 4), -1);
        Checks.due("57 by 30", spun(3, 999, 1911, 10), 1);
        Checks.due("48 by 24", spun(4, 999, 1211, 4), 2);
        Checks.due("44 by 24", spun(4, 999, 1111, 4), 1);
        Checks.due("greatest", spun(40, 999, 5911, 4), 158);
        Checks.due("of the greatest AIM", spun(40, 999, 5911, 60), 47);
    }

    private static void notMoreThanCotton() {
        Checks.sentence("but not more than its VILLAGE's COTTON times AIM");
        // 200 * 19 / 30 = 126
        Checks.due("no COTTON", spun(40, 0, 5911, 10), -1);
        Checks.due("one pound", spun(40, 1, 5911, 10), 10);
        Checks.due("12 pounds", spun(40, 12, 5911, 10), 120);
        Checks.due("13 pounds", spun(40, 13, 5911, 10), 126);
        Checks.due("one pound of 60", spun(40, 1, 5911, 60), 47);
    }

    private static void begunPound() {
        Checks.sentence("COTTON is less by HANKS by AIM, a begun pound as a whole one.");
        // two WHEELS of SKILL 5 and AIM 10 spin as many HANKS as IDLE hours
        int[][] all = {{1, 9}, {4, 9}, {9, 9}, {10, 9}, {11, 8}, {19, 8}, {20, 8}, {21, 7}, {40, 6}};
        for (int[] w : all) {
            WheelLand x = spinner(w[0], 10, 2511, 10);
            x.go(1);
            Checks.due("HANKS", x.lot(0, 4), w[0]);
            Checks.due("COTTON behind " + w[0] + " hanks", x.is(0, 0), w[1]);
        }
    }

    private static void nothingOfNoHanks() {
        Checks.sentence("With 0 HANKS, or 300 LOTS, nothing is spun.");
        WheelLand x = spinner(2, 10, 1111, 10);
        x.go(1);
        Checks.due("LOTS of 22 by 30", x.count(3), 0);
        Checks.due("COTTON", x.is(0, 0), 10);
        Checks.due("told(0, 1)", x.told(0, 1), 0);
        Checks.due("told(0, 2)", x.told(0, 2), 0);
        WheelLand y = spinner(40, 0, 5911, 10);
        y.go(1);
        Checks.due("LOTS without COTTON", y.count(3), 0);
        Checks.due("CAN without COTTON", y.due(0, 2), 158);
        WheelLand z = spinner(0, 10, 5911, 10);
        z.go(1);
        Checks.due("LOTS without IDLE hours", z.count(3), 0);
        Checks.due("COTTON without IDLE hours", z.is(0, 0), 10);
    }

    /** Twenty HOUSES, each of 14 hanks and 2 pounds a week. */
    private static WheelLand twenty() {
        WheelLand x = new WheelLand();
        x.village(40404040, 5, 9999);
        for (int k = 0; k < 20; k++) {
            x.house(0, 1111);
        }
        return x;
    }

    private static void threeHundred() {
        Checks.sentence("A LOT is HANKS of one HOUSE and WEEK (numbers as they come, at most 300)");
        WheelLand x = twenty();
        x.go(14);
        Checks.due("LOTS", x.count(3), 280);
        Checks.due("what would be spun", x.best(0, 1), 280);
        x.go(1);
        Checks.due("LOTS, the most", x.count(3), 300);
        Checks.due("the last one's HOUSE", x.lot(299, 0), 19);
        Checks.due("the last one's WEEK", x.lot(299, 1), 14);
        Checks.due("beyond", x.lot(300, 0), -1);
        Checks.due("COTTON", x.is(0, 0), 9999 - 600);
        x.go(1);
        Checks.due("LOTS", x.count(3), 300);
        Checks.due("beyond", x.lot(300, 0), -1);
        Checks.due("COTTON stays", x.is(0, 0), 9999 - 600);
        Checks.due("told(15, 1)", x.told(15, 1), 0);
        Checks.due("told(15, 5)", x.told(15, 5), 4200);
        Checks.due("CAN goes on", x.due(0, 2), 16 * 18);
        Checks.due("check(15, 0, 1)", x.check(15, 0, 1), 0);
    }

    private static void twoLess() {
        Checks.sentence("With 0 HANKS, or 300 LOTS, nothing is spun.");
        WheelLand x = new WheelLand();
        x.village(40404040, 5, 9999);
        for (int k = 0; k < 19; k++) {
            x.house(0, 1111);
        }
        x.go(15);
        Checks.due("LOTS", x.count(3), 285);
        x.house(0, 1111);
        Checks.due("what would be spun", x.best(0, 1), 15 * 14);
        x.go(1);
        Checks.due("LOTS", x.count(3), 300);
        Checks.due("the last one's HOUSE", x.lot(299, 0), 14);
        Checks.due("COTTON", x.is(0, 0), 9999 - 600);
        Checks.due("told(15, 1)", x.told(15, 1), 15 * 14);
        Checks.due("what would be spun", x.best(0, 1), 0);
        Checks.due("CAN of one that spun nothing", x.due(19, 2), 18);
    }

    private static void countIsAim() {
        Checks.sentence("COUNT is AIM");
        WheelLand x = spinner(40, 99, 5911, 4);
        x.go(1);
        x.aim(0, 60);
        Checks.due("COUNT of what was spun", x.lot(0, 2), 4);
        Checks.due("STRENGTH of what was spun", x.lot(0, 3), 119);
        x.go(1);
        Checks.due("COUNT", x.lot(1, 2), 60);
        Checks.due("STRENGTH", x.lot(1, 3), 7);
    }

    private static void strengths() {
        Checks.sentence("STRENGTH is 20 times STAPLE and 3 times SKILL less 2 times AIM, together, 0 at least.");
        int[][] all = {{15, 2}, {16, 0}, {17, 0}, {60, 0}, {4, 24}};
        for (int[] w : all) {
            WheelLand x = new WheelLand();
            x.village(40404040, 1, 99);
            x.house(0, 5411);
            x.aim(0, w[0]);
            x.go(1);
            // 20 and 12
            Checks.due("STRENGTH of AIM " + w[0], x.lot(0, 3), w[1]);
        }
        WheelLand x = new WheelLand();
        x.village(40404040, 9, 99);
        x.house(0, 5911);
        x.aim(0, 4);
        x.go(1);
        Checks.due("STRENGTH, the greatest", x.lot(0, 3), 199);
    }

    private static void leftOfLots() {
        Checks.sentence("Of a LOT: 0 the HOUSE, 1 the WEEK, 2 COUNT, 3 STRENGTH, 4 HANKS, 5 LEFT. NONE for others");
        WheelLand x = spinner(40, 99, 5911, 10);
        x.go(2);
        x.pay(0, 1, 126);
        int[] want = {0, 1, 10, 107, 126, 0};
        for (int what = 0; what <= 5; what++) {
            Checks.due("lot(1, " + what + ")", x.lot(1, what), want[what]);
        }
        for (int what : new int[] {-1, 6, 7, Integer.MIN_VALUE, Integer.MAX_VALUE}) {
            Checks.due("lot(1, " + what + ")", x.lot(1, what), -1);
        }
        for (int lot : new int[] {-1, 2, 300, Integer.MIN_VALUE, Integer.MAX_VALUE}) {
            for (int what = 0; what <= 5; what++) {
                Checks.due("lot(" + lot + ", " + what + ")", x.lot(lot, what), -1);
            }
        }
    }
}
