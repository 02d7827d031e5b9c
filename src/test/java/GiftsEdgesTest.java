/** 'Terms', part 6 (GIFTS, HUNGER), and promises 35 to 39: each sentence that names a bound or a case at its edge. */
public final class GiftsEdgesTest {
    public static void main(String[] args) {
        eightGifts();
        pricesOfGifts();
        kinds();
        wheelsAtMost();
        skillAtMost();
        cottonAtMost();
        notAbove();
        fewestCoins();
        leastNumber();
        asTheWeekEnds();
        allHouses();
        threeHundred();
        emptyOfThreeHundred();
        lastOnes();
        bestOf();
        hungry();
        hungryPrices();
        keepsCut();
        keepsOfNoHanks();
        keepsAlone();
        keepsItself();
        keepsNoLess();
        keepsNone();
        Checks.finish("GiftsEdgesTest");
    }

    /** House 0 spins 10 hanks, house 1 has no WHEELS. */
    private static WheelLand land() {
        WheelLand x = new WheelLand();
        x.village(10203040, 5, 500);
        x.house(0, 2504);
        x.house(0, 103);
        return x;
    }

    private static void due(WheelLand x, int coins, int heap, int hanks, int cost) {
        Checks.due("best(" + coins + ", 0)", x.best(coins, 0), heap);
        Checks.due("best(" + coins + ", 1)", x.best(coins, 1), hanks);
        Checks.due("best(" + coins + ", 2)", x.best(coins, 2), cost);
    }

    private static void eightGifts() {
        Checks.sentence("GIFTS (told, at most 8)");
        WheelLand x = land();
        Checks.due("forget of none", x.forget(), 0);
        for (int k = 0; k < 8; k++) {
            Checks.due("gift", x.gift(1, 0, 0), k);
            Checks.due("GIFTS", x.count(8), k + 1);
        }
        Checks.due("the ninth", x.gift(1, 0, 0), -1);
        Checks.due("GIFTS", x.count(8), 8);
        // three WHEELS more are the most: 50 * 15 / 30
        due(x, 99, 7, 25, 3);
        Checks.due("forget", x.forget(), 8);
        Checks.due("GIFTS", x.count(8), 0);
        due(x, 99, 0, 10, 0);
        Checks.due("gift anew", x.gift(99, 1, 2), 0);
        Checks.due("forget", x.forget(), 1);
    }

    private static void pricesOfGifts() {
        Checks.sentence("a price (1 .. 99)");
        for (int price : new int[] {-1, 0, 1, 2, 98, 99, 100, Integer.MIN_VALUE, Integer.MAX_VALUE}) {
            WheelLand x = land();
            boolean can = price >= 1 && price <= 99;
            Checks.due("gift(" + price + ", 0, 0)", x.gift(price, 0, 0), can ? 0 : -1);
            Checks.due("GIFTS", x.count(8), can ? 1 : 0);
            due(x, 1000, can ? 1 : 0, can ? 15 : 10, can ? price : 0);
        }
    }

    private static void kinds() {
        Checks.sentence("NONE if there is no such HOUSE or kind, the price can't be, or 8 are.");
        WheelLand x = land();
        for (int kind : new int[] {-1, 3, Integer.MIN_VALUE, Integer.MAX_VALUE}) {
            Checks.due("gift(5, 0, " + kind + ")", x.gift(5, 0, kind), -1);
        }
        for (int house : new int[] {-1, 2, 20, Integer.MIN_VALUE, Integer.MAX_VALUE}) {
            Checks.due("gift(5, " + house + ", 0)", x.gift(5, house, 0), -1);
        }
        Checks.due("GIFTS", x.count(8), 0);
        for (int kind = 0; kind <= 2; kind++) {
            Checks.due("gift(5, 1, " + kind + ")", x.gift(5, 1, kind), kind);
        }
        Checks.due("forget", x.forget(), 3);
    }

    /** One HOUSE of these WHEELS and SKILL by COTTON and AIM, and one GIFT at a price of 3. */
    private static void one(int what, int cotton, int aim, int kind, int heap, int hanks) {
        WheelLand x = new WheelLand();
        x.village(40404040, 5, cotton);
        x.house(0, what);
        x.aim(0, aim);
        x.gift(3, 0, kind);
        Checks.sentence("GIFT of kind " + kind + " to " + what + " with " + cotton + " pounds, AIM " + aim);
        due(x, 3, heap, hanks, heap * 3);
        due(x, 2, 0, x.best(0, 1), 0);
        Checks.due("WHEELS, nothing given", x.has(0, 1), what / 1000);
        Checks.due("SKILL, nothing given", x.has(0, 2), what / 100 % 10);
        Checks.due("COTTON, nothing given", x.is(0, 0), cotton);
    }

    private static void wheelsAtMost() {
        // "0 a WHEEL more (5 at most)"
        one(111, 9999, 10, 0, 1, 14);
        one(4111, 9999, 10, 0, 1, 73);
        one(5111, 9999, 10, 0, 0, 73);
    }

    private static void skillAtMost() {
        // "1 SKILL one more (9 at most)"
        one(5111, 9999, 10, 1, 1, 80);
        one(5811, 9999, 10, 1, 1, 126);
        one(5911, 9999, 10, 1, 0, 126);
        // 40 hours of 10 and SKILL 10 would be 26 hanks, of 9 they are 25
        one(1911, 9999, 10, 1, 0, 25);
        one(1811, 9999, 10, 1, 1, 25);
    }

    private static void cottonAtMost() {
        // "2 COTTON 5 pounds more for its VILLAGE (9999 at most)"
        one(5911, 0, 10, 2, 1, 50);
        one(5911, 7, 10, 2, 1, 120);
        one(5911, 8, 10, 2, 1, 126);
        one(5911, 13, 10, 2, 0, 126);
        one(5911, 9999, 10, 2, 0, 126);
        one(5911, 9995, 4, 2, 0, 158);
        Checks.sentence("2 COTTON 5 pounds more for its VILLAGE");
        WheelLand x = new WheelLand();
        x.village(40404040, 5, 0);
        x.village(40404040, 5, 0);
        x.house(0, 5911);
        x.house(1, 5911);
        x.house(1, 111);
        x.gift(3, 2, 2);
        due(x, 3, 1, 50, 3);
        x.gift(2, 0, 2);
        due(x, 3, 2, 50, 2);
        due(x, 5, 3, 100, 5);
    }

    private static void notAbove() {
        Checks.sentence("the heap of GIFTS whose prices are together not above these");
        WheelLand x = land();
        x.gift(5, 0, 0);
        x.gift(7, 0, 0);
        int[][] all = {
            {0, 0, 10, 0}, {4, 0, 10, 0}, {5, 1, 15, 5}, {6, 1, 15, 5}, {7, 1, 15, 5}, {11, 1, 15, 5}, {12, 3, 20, 12},
            {13, 3, 20, 12}, {Integer.MAX_VALUE, 3, 20, 12}};
        for (int[] w : all) {
            due(x, w[0], w[1], w[2], w[3]);
        }
        WheelLand y = land();
        for (int k = 0; k < 8; k++) {
            y.gift(99, k / 4, k % 2);
        }
        // two WHEELS and two SKILL for each HOUSE: 40 * 17 / 30 = 22 and 20 * 12 / 30 = 8, of 13 too
        due(y, 98, 0, 10, 0);
        due(y, 99, 1, 15, 99);
        due(y, 692, 95, 29, 594);
        due(y, 693, 127, 30, 693);
        due(y, 792, 127, 30, 693);
    }

    private static void fewestCoins() {
        Checks.sentence("by which most HANKS would be spun as this WEEK ends, of like ones the fewest coins");
        WheelLand x = land();
        x.gift(9, 0, 0);
        x.gift(8, 0, 0);
        x.gift(7, 0, 0);
        x.gift(1, 1, 1);
        due(x, 24, 7, 25, 24);
        due(x, 17, 6, 20, 15);
        due(x, 15, 6, 20, 15);
        due(x, 14, 4, 15, 7);
        due(x, 7, 4, 15, 7);
        due(x, 6, 0, 10, 0);
        due(x, 99, 7, 25, 24);
    }

    private static void leastNumber() {
        Checks.sentence("of like ones the least number (bits).");
        WheelLand x = land();
        for (int k = 0; k < 4; k++) {
            x.gift(5, 0, 0);
        }
        due(x, 5, 1, 15, 5);
        due(x, 10, 3, 20, 10);
        due(x, 20, 7, 25, 15);
        WheelLand y = land();
        y.gift(6, 0, 0);
        y.gift(2, 0, 0);
        y.gift(4, 0, 0);
        y.gift(3, 0, 0);
        y.gift(3, 0, 0);
        // 6 and 4, or 2 and 4 ..: two for 5 coins are 2 and 3, the least of them bits 1 and 3
        due(y, 5, 10, 20, 5);
        due(y, 6, 10, 20, 5);
        due(y, 8, 26, 25, 8);
    }

    private static void asTheWeekEnds() {
        Checks.sentence("most HANKS would be spun as this WEEK ends");
        WheelLand x = land();
        x.gift(5, 0, 0);
        int[] want = {15, 30, 45, 60};
        for (int season = 0; season < 4; season++) {
            due(x, 5, 1, want[season], 5);
            x.go(12);
            due(x, 5, 1, want[season], 5);
            x.go(1);
        }
        due(x, 5, 1, 15, 5);
        x.aim(0, 25);
        due(x, 5, 1, 10, 5);
    }

    private static void allHouses() {
        Checks.sentence("(all HOUSES, by numbers)");
        WheelLand x = new WheelLand();
        x.village(40404040, 5, 2);
        x.house(0, 1111);
        x.house(0, 1911);
        x.gift(4, 0, 0);
        // 14 hanks take both pounds, the other HOUSE gets none
        due(x, 9, 1, 20, 4);
        x.gift(9, 1, 2);
        due(x, 9, 2, 39, 9);
        due(x, 13, 3, 54, 13);
    }

    private static void threeHundred() {
        Checks.sentence("With 0 HANKS, or 300 LOTS, nothing is spun.");
        WheelLand x = new WheelLand();
        x.village(40404040, 5, 9999);
        for (int k = 0; k < 19; k++) {
            x.house(0, 1111);
        }
        x.gift(5, 0, 0);
        x.gift(1, 18, 0);
        x.go(15);
        // 15 LOTS can come yet
        due(x, 9, 1, 15 * 14 + 15, 5);
        x.go(1);
        due(x, 9, 0, 0, 0);
    }

    private static void emptyOfThreeHundred() {
        Checks.sentence("With 0 HANKS, or 300 LOTS, nothing is spun.");
        for (int idle : new int[] {0, 2}) {
            WheelLand x = new WheelLand();
            x.village(40404040, 5, 9999);
            x.village(idle * 1010101, 5, 9999);
            x.house(1, 1511);
            for (int k = 0; k < 19 - idle / 2; k++) {
                x.house(0, 1111);
            }
            x.go(15);
            Checks.due("LOTS", x.count(3), 285);
            // one HANK is a LOT, none is not
            due(x, 0, 0, idle == 0 ? 15 * 14 : 1 + 14 * 14, 0);
        }
    }

    private static void lastOnes() {
        Checks.sentence("a HOUSE, a kind: 0 a WHEEL more, 1 SKILL one more, 2 COTTON 5 pounds more for its VILLAGE");
        WheelLand x = new WheelLand();
        for (int k = 0; k < 8; k++) {
            x.village(40404040, 5, 2);
        }
        for (int k = 0; k < 20; k++) {
            x.house(k == 19 ? 7 : k % 7, k == 19 ? 1101 : 101);
        }
        due(x, 9, 0, 14, 0);
        x.gift(1, 19, 2);
        x.gift(1, 19, 0);
        x.gift(1, 19, 1);
        // 40 * 12 / 30 = 16, 80 * 11 / 30 = 29, 80 * 12 / 30 = 32 of 7 pounds
        due(x, 1, 2, 20, 1);
        due(x, 2, 3, 29, 2);
        due(x, 3, 7, 32, 3);
    }

    private static void bestOf() {
        Checks.sentence("the heap (what 0), HANKS (1), coins (2); NONE for others, coins below 0, or if NOW is 156.");
        WheelLand x = land();
        due(x, 0, 0, 10, 0);
        for (int what : new int[] {-1, 3, Integer.MIN_VALUE, Integer.MAX_VALUE}) {
            Checks.due("best(5, " + what + ")", x.best(5, what), -1);
        }
        for (int coins : new int[] {-1, Integer.MIN_VALUE}) {
            due(x, coins, -1, -1, -1);
        }
        for (int k = 0; k < 5; k++) {
            x.go(26);
        }
        x.go(25);
        due(x, 0, 0, 40, 0);
        x.go(1);
        due(x, 0, -1, -1, -1);
        due(new WheelLand(), 0, 0, 0, 0);
    }

    private static void hungry() {
        Checks.sentence("HUNGRY are HOUSES whose PURSE is below HEADS times it.");
        WheelLand x = land();
        x.coins(0, 12);
        x.coins(1, 8);
        // HEADS 4 and 3
        int[] want = {-1, 0, 0, 2, 3, 3};
        for (int grain = 0; grain <= 5; grain++) {
            Checks.due("hungry(" + grain + ")", x.hungry(grain), want[grain]);
        }
        x.coins(1, 1);
        Checks.due("hungry(3) of just so much", x.hungry(3), 0);
        x.coins(1, -10);
        Checks.due("hungry(1) of a PURSE below", x.hungry(1), 2);
        for (int k = 2; k < 20; k++) {
            x.house(0, 101);
        }
        Checks.due("hungry(1) of twenty", x.hungry(1), (1 << 20) - 2);
        x.coins(19, 1);
        Checks.due("hungry(1) of twenty", x.hungry(1), (1 << 19) - 2);
        Checks.due("hungry(1) of none", new WheelLand().hungry(1), 0);
    }

    private static void hungryPrices() {
        Checks.sentence("with GRAIN at a price (1 .. 99); NONE if the price can't be.");
        WheelLand x = land();
        x.coins(0, 396);
        x.coins(1, 296);
        for (int grain : new int[] {0, -1, 100, Integer.MIN_VALUE, Integer.MAX_VALUE}) {
            Checks.due("hungry(" + grain + ")", x.hungry(grain), -1);
            Checks.due("keeps(0, " + grain + ")", x.keeps(0, grain), -1);
        }
        Checks.due("hungry(1)", x.hungry(1), 0);
        Checks.due("hungry(98)", x.hungry(98), 0);
        Checks.due("hungry(99)", x.hungry(99), 2);
        Checks.due("keeps(0, 1)", x.keeps(0, 1), 0);
        Checks.due("keeps(0, 99)", x.keeps(0, 99), 0);
        for (int k = 0; k < 6; k++) {
            x.go(26);
        }
        Checks.due("hungry(99) NOW 156", x.hungry(99), 2);
    }

    private static int keeps(String wage, int house, int grain) {
        WheelLand x = land();
        Checks.enforce(x, "wage " + wage + ";", 0);
        return x.keeps(house, grain);
    }

    private static void keepsCut() {
        Checks.sentence("by HEADS times GRAIN (cut)");
        Checks.due("11 by 12", keeps("11", 0, 3), 0);
        Checks.due("12 by 12", keeps("12", 0, 3), 1);
        Checks.due("23 by 12", keeps("23", 0, 3), 1);
        Checks.due("24 by 12", keeps("24", 0, 3), 2);
        Checks.due("395 by 396", keeps("395", 0, 99), 0);
        Checks.due("396 by 396", keeps("396", 0, 99), 1);
        Checks.due("1000000 by 3", keeps("9999*9999", 1, 1), 333333);
        WheelLand x = new WheelLand();
        x.village(0, 5, 0);
        x.house(0, 101);
        x.house(0, 102);
        Checks.due("1 by 1, without a text", x.keeps(0, 1), 1);
        Checks.due("1 by 2, without a text", x.keeps(1, 1), 0);
        Checks.due("1 by 2, without a text", x.keeps(0, 2), 0);
    }

    private static void keepsOfNoHanks() {
        Checks.sentence("also of 0 HANKS");
        Checks.due("without WHEELS", keeps("30+hanks", 1, 1), 10);
        WheelLand x = new WheelLand();
        x.village(40404040, 5, 0);
        x.house(0, 5911);
        Checks.enforce(x, "wage 30+hanks;", 0);
        Checks.due("without COTTON", x.keeps(0, 1), 30);
        x.cotton(0, 1);
        Checks.due("with one pound", x.keeps(0, 1), 40);
        x.go(1);
        Checks.due("without COTTON", x.keeps(0, 1), 30);
        WheelLand y = new WheelLand();
        y.village(40404040, 5, 9999);
        for (int k = 0; k < 20; k++) {
            y.house(0, 1111);
        }
        Checks.enforce(y, "wage 30+hanks;", 0);
        y.go(14);
        Checks.due("with 280 LOTS", y.keeps(0, 1), 44);
        Checks.due("with 280 LOTS, the last one", y.keeps(19, 1), 44);
        y.go(1);
        Checks.due("with 300 LOTS", y.keeps(0, 1), 30);
    }

    private static void keepsAlone() {
        Checks.sentence("what it alone would spin as this WEEK ends, with the COTTON that is there now");
        WheelLand x = new WheelLand();
        x.village(40203010, 5, 2);
        x.house(0, 5911);
        x.house(0, 5911);
        Checks.enforce(x, "wage hanks;", 0);
        Checks.due("the first HOUSE", x.keeps(0, 1), 20);
        Checks.due("the second one", x.keeps(1, 1), 20);
        x.aim(1, 4);
        Checks.due("of another AIM", x.keeps(1, 1), 8);
        x.cotton(0, 99);
        Checks.due("of COTTON enough", x.keeps(0, 1), 126);
        Checks.due("COTTON stays", x.is(0, 0), 101);
        x.go(12);
        x.cotton(0, 900);
        Checks.due("in the 13th WEEK", x.keeps(0, 1), 126);
        x.go(1);
        Checks.due("in the next SEASON", x.keeps(0, 1), 63);
    }

    private static void keepsItself() {
        Checks.sentence("as if it wove for itself: other its own CASTE, far 0");
        WheelLand x = new WheelLand();
        x.village(10203040, 5, 500);
        x.village(0, 5, 500);
        x.road(0, 1, 5);
        x.house(0, 2541);
        x.house(1, 111);
        x.aim(0, 12);
        Checks.enforce(x, "wage other*10+far+price+1;", 0);
        Checks.due("other and far", x.keeps(0, 1), 41);
        Checks.due("other and far of another", x.keeps(1, 1), 11);
        Checks.enforce(x, "wage count*1000+strength;", 0);
        Checks.due("COUNT and STRENGTH", x.keeps(0, 1), 12091);
        Checks.enforce(x, "wage heads*1000+wheels*100+skill*10+caste+idle*9000;", 0);
        Checks.due("of the HOUSE", x.keeps(0, 1), 91254);
        Checks.due("of another", x.keeps(1, 1), 1011);
        Checks.enforce(x, "wage week*10+season;", 0);
        x.go(14);
        Checks.due("WEEK and SEASON", x.keeps(0, 1), 141);
    }

    private static void keepsNoLess() {
        Checks.sentence("0 at least");
        Checks.due("wage of -1", keeps("0-1", 0, 1), 0);
        Checks.due("wage of -4", keeps("0-4", 0, 1), 0);
        Checks.due("wage of -1000000", keeps("0-9999*9999", 0, 1), 0);
        Checks.due("wage of 0", keeps("0", 0, 1), 0);
        Checks.due("wage of 4", keeps("4", 0, 1), 1);
    }

    private static void keepsNone() {
        Checks.sentence("NONE if there is none such, the price can't be, or NOW is 156.");
        WheelLand x = land();
        Checks.enforce(x, "wage 40;", 0);
        for (int house : new int[] {-1, 2, 20, Integer.MIN_VALUE, Integer.MAX_VALUE}) {
            Checks.due("keeps(" + house + ", 1)", x.keeps(house, 1), -1);
        }
        for (int grain : new int[] {-1, 0, 1, 99, 100, Integer.MIN_VALUE, Integer.MAX_VALUE}) {
            Checks.due("keeps(0, " + grain + ")", x.keeps(0, grain), grain == 1 ? 10 : grain == 99 ? 0 : -1);
        }
        for (int k = 0; k < 5; k++) {
            x.go(26);
        }
        x.go(25);
        Checks.due("keeps NOW 155", x.keeps(0, 1), 10);
        x.go(1);
        Checks.due("keeps NOW 156", x.keeps(0, 1), -1);
    }
}
