/** Promises 35 to 39: gifts, the best heap, hunger and what yarn keeps. */
public final class GiftsTest {
    public static void main(String[] args) {
        telling();
        kinds();
        greatest();
        choosing();
        nothingIsGiven();
        hunger();
        yarn();
        Checks.finish("GiftsTest");
    }

    /** House 0 spins 10 hanks, house 1 none yet; cotton enough. */
    private static WheelLand land() {
        WheelLand x = new WheelLand();
        x.village(10203040, 5, 500);
        x.house(0, 2504);
        x.house(0, 103);
        return x;
    }

    private static void due(WheelLand x, int coins, int heap, int hanks, int cost) {
        Checks.due("best(" + coins + ", 0)", x.best(coins, 0), heap);
        Checks.due("best(" + coins + ", 1)", x.best(coins, 1), hanks);
        Checks.due("best(" + coins + ", 2)", x.best(coins, 2), cost);
    }

    private static void telling() {
        WheelLand x = land();
        int[][] wrong = {{0, 0, 0}, {100, 0, 0}, {-1, 0, 0}, {5, 2, 0}, {5, -1, 0}, {5, 0, 3}, {5, 0, -1}};
        for (int[] w : wrong) {
            Checks.due("gift(" + w[0] + ", " + w[1] + ", " + w[2] + ")", x.gift(w[0], w[1], w[2]), -1);
        }
        Checks.due("count(8)", x.count(8), 0);
        Checks.due("forget nothing", x.forget(), 0);
        Checks.due("gift(1, 0, 0)", x.gift(1, 0, 0), 0);
        for (int k = 1; k < 8; k++) {
            Checks.due("gift " + k, x.gift(99, 1, 2), k);
        }
        Checks.due("ninth gift", x.gift(1, 0, 0), -1);
        Checks.due("count(8)", x.count(8), 8);
        Checks.due("forget", x.forget(), 8);
        Checks.due("count(8)", x.count(8), 0);
        Checks.due("gift anew", x.gift(1, 0, 1), 0);
        Checks.due("best(-1, 0)", x.best(-1, 0), -1);
        Checks.due("best(0, 3)", x.best(0, 3), -1);
        Checks.due("best(0, -1)", x.best(0, -1), -1);
    }

    private static void kinds() {
        WheelLand x = land();
        due(x, 0, 0, 10, 0);
        x.gift(3, 0, 0);
        // 30 * 15 / 30
        due(x, 2, 0, 10, 0);
        due(x, 3, 1, 15, 3);
        x.forget();
        x.gift(3, 0, 1);
        // 20 * 16 / 30 is 10 still
        due(x, 99, 0, 10, 0);
        x.gift(3, 0, 1);
        due(x, 99, 3, 11, 6);
        x.gift(3, 0, 1);
        // 20 * 18 / 30
        due(x, 99, 7, 12, 9);
        x.gift(4, 1, 0);
        // 10 * 11 / 30 = 3 by another house
        due(x, 99, 15, 15, 13);
        due(x, 4, 8, 13, 4);
        WheelLand y = new WheelLand();
        y.village(40404040, 5, 1);
        y.house(0, 5904);
        y.gift(7, 0, 2);
        y.gift(7, 0, 2);
        // 200 * 19 / 30 = 126 by 10 hanks a pound
        due(y, 0, 0, 10, 0);
        due(y, 7, 1, 60, 7);
        due(y, 14, 3, 110, 14);
        y.cotton(0, 2);
        due(y, 99, 3, 126, 14);
        y.aim(0, 20);
        due(y, 99, 1, 95, 7);
        y.go(13);
        for (int k = 0; k < 6; k++) {
            y.go(26);
        }
        Checks.due("best at 156", y.best(5, 0), -1);
        WheelLand z = new WheelLand();
        z.village(40000000, 5, 10);
        z.house(0, 1504);
        z.gift(7, 0, 0);
        due(z, 7, 1, 40, 7);
        z.go(13);
        due(z, 7, 0, 0, 0);
        Checks.due("best at 156", y.best(5, 1), -1);
    }

    private static void greatest() {
        WheelLand x = new WheelLand();
        x.village(40404040, 5, 9996);
        x.house(0, 5904);
        x.house(0, 4801);
        x.gift(1, 0, 0);
        x.gift(1, 0, 1);
        x.gift(1, 0, 2);
        // WHEELS 5 and SKILL 9 are the most: 126 and 160 * 18 / 30 = 96
        due(x, 99, 0, 222, 0);
        x.gift(1, 1, 0);
        x.gift(1, 1, 0);
        x.gift(1, 1, 1);
        x.gift(1, 1, 1);
        due(x, 99, 8 + 32, 252, 2);
        due(x, 1, 8, 126 + 120, 1);
    }

    private static void choosing() {
        WheelLand x = land();
        x.gift(5, 0, 0);
        x.gift(4, 0, 0);
        x.gift(4, 0, 0);
        x.gift(9, 1, 0);
        // the cheaper of like ones, then the lesser number
        due(x, 5, 2, 15, 4);
        due(x, 4, 2, 15, 4);
        due(x, 8, 6, 20, 8);
        due(x, 9, 6, 20, 8);
        due(x, 13, 7, 25, 13);
        due(x, 22, 15, 28, 22);
        due(x, 12, 6, 20, 8);
        due(x, Integer.MAX_VALUE, 15, 28, 22);
        x.go(13);
        // idle 20: 40 * 15 / 30 = 20, 30 with a wheel more; the other house 20 * 11 / 30 = 7
        due(x, 4, 2, 30, 4);
        due(x, 9, 6, 40, 8);
        due(x, 22, 15, 57, 22);
        scarce();
    }

    private static void scarce() {
        WheelLand x = new WheelLand();
        x.village(40404040, 5, 6);
        x.village(40404040, 5, 6);
        x.house(0, 1501);
        x.house(0, 5901);
        x.house(1, 5901);
        // 40 * 15 / 30 = 20 by 2 pounds, 4 pounds and 6 pounds
        due(x, 0, 0, 20 + 40 + 60, 0);
        x.gift(2, 0, 0);
        due(x, 9, 0, 120, 0);
        x.gift(3, 1, 2);
        due(x, 9, 2, 170, 3);
        x.gift(3, 2, 2);
        due(x, 9, 6, 220, 6);
        due(x, 3, 2, 170, 3);
        x.aim(0, 17);
        // 600 / 37 = 16 by a begun pound: 5 pounds of 10
        due(x, 0, 0, 16 + 50 + 60, 0);
    }

    private static void nothingIsGiven() {
        WheelLand x = land();
        x.gift(1, 1, 0);
        x.gift(1, 1, 1);
        x.gift(1, 1, 2);
        x.best(99, 0);
        Checks.due("has(1, 1)", x.has(1, 1), 0);
        Checks.due("has(1, 2)", x.has(1, 2), 1);
        Checks.due("is(0, 0)", x.is(0, 0), 500);
        x.go(1);
        Checks.due("count(3)", x.count(3), 1);
        Checks.due("is(0, 0)", x.is(0, 0), 499);
        Checks.due("count(8)", x.count(8), 3);
    }

    private static void hunger() {
        WheelLand x = land();
        x.house(0, 109);
        Checks.due("hungry(0)", x.hungry(0), -1);
        Checks.due("hungry(100)", x.hungry(100), -1);
        Checks.due("hungry(1)", x.hungry(1), 7);
        x.coins(0, 12);
        x.coins(1, 11);
        Checks.due("hungry(3)", x.hungry(3), 4);
        Checks.due("hungry(4)", x.hungry(4), 7);
        x.coins(2, 891);
        Checks.due("hungry(99)", x.hungry(99), 3);
        x.coins(2, -1);
        Checks.due("hungry(99)", x.hungry(99), 7);
        x.coins(1, -12);
        Checks.due("hungry(1)", x.hungry(1), 2);
        for (int k = 0; k < 6; k++) {
            x.go(26);
        }
        Checks.due("hungry at 156", x.hungry(1), 2);
    }

    private static int keeps(String text, int house, int grain) {
        WheelLand x = land();
        Checks.enforce(x, text, 0);
        return x.keeps(house, grain);
    }

    private static void yarn() {
        Checks.due("wage by HEADS and GRAIN", keeps("wage 23;", 0, 1), 5);
        Checks.due("wage by HEADS and GRAIN", keeps("wage 24;", 0, 2), 3);
        Checks.due("another's HEADS", keeps("wage 24;", 1, 2), 4);
        Checks.due("wage below 0", keeps("wage 0-100;", 0, 1), 0);
        Checks.due("hanks", keeps("wage hanks*100;", 0, 5), 50);
        Checks.due("0 hanks", keeps("wage hanks*100+7;", 1, 1), 2);
        String[] names = {
            "week=0", "season=0", "heads=4", "wheels=2", "skill=5", "caste=0", "other=0", "count=10",
            "strength=95", "hanks=10", "idle=10", "far=0", "price=0"};
        for (String name : names) {
            String[] sides = name.split("=");
            int want = Integer.parseInt(sides[1]) + 1;
            Checks.due("keeps by " + name, keeps("wage (" + sides[0] + "+1)*4;", 0, 1), want);
        }
        WheelLand x = new WheelLand();
        x.village(40404040, 9, 2);
        x.village(40404040, 9, 0);
        x.house(0, 5941);
        x.house(0, 5931);
        x.house(1, 5931);
        Checks.enforce(x, "wage hanks+other*1000;", 0);
        // each alone by the cotton there is now, which is for 20 hanks
        Checks.due("keeps(0, 1)", x.keeps(0, 1), 4020);
        Checks.due("keeps(1, 1)", x.keeps(1, 1), 3020);
        Checks.due("keeps(2, 1)", x.keeps(2, 1), 3000);
        Checks.due("keeps(3, 1)", x.keeps(3, 1), -1);
        Checks.due("keeps(-1, 1)", x.keeps(-1, 1), -1);
        Checks.due("keeps(0, 0)", x.keeps(0, 0), -1);
        Checks.due("keeps(0, 100)", x.keeps(0, 100), -1);
        Checks.due("keeps(0, 99)", x.keeps(0, 99), 40);
        x.go(1);
        Checks.due("keeps without cotton", x.keeps(0, 1), 4000);
        x.go(13);
        Checks.enforce(x, "wage week*10+season;", 14);
        Checks.due("keeps by week and season", x.keeps(0, 1), 141);
        Checks.enforce(x, "wage 0-7;", 14);
        Checks.due("keeps by a wage below 0", x.keeps(0, 1), 0);
        for (int k = 0; k < 6; k++) {
            x.go(26);
        }
        Checks.due("keeps at 156", x.keeps(0, 1), -1);
        keepsWithoutText();
    }

    private static void keepsWithoutText() {
        WheelLand x = new WheelLand();
        x.village(0, 9, 2);
        x.house(0, 101);
        Checks.due("keeps without a text", x.keeps(0, 1), 1);
        Checks.due("keeps without a text", x.keeps(0, 2), 0);
    }
}
