/** Promises 1 to 9: villages, roads, houses, looms, aims, coins and cotton. */
public final class VillagesTest {
    public static void main(String[] args) {
        newObject();
        villages();
        roads();
        houses();
        looms();
        aims();
        coins();
        cotton();
        behindTheLastWeek();
        Checks.finish("VillagesTest");
    }

    private static void newObject() {
        WheelLand x = new WheelLand();
        for (int what = 0; what <= 9; what++) {
            Checks.due("new count(" + what + ")", x.count(what), 0);
        }
        Checks.due("new fault()", x.fault(), -1);
        Checks.due("NONE", WheelLand.NONE, -1);
        Checks.due("VOID", WheelLand.VOID, Integer.MIN_VALUE);
        new WheelLand().village(0, 1, 0);
        Checks.due("another object's villages", x.count(1), 0);
    }

    private static void villages() {
        WheelLand x = new WheelLand();
        int[][] wrong = {
            {41000000, 5, 0}, {410000, 5, 0}, {4100, 5, 0}, {41, 5, 0}, {-1, 5, 0}, {-40404040, 5, 0},
            {100000000, 5, 0}, {Integer.MAX_VALUE, 5, 0}, {Integer.MIN_VALUE, 5, 0},
            {0, 0, 0}, {0, 10, 0}, {0, -5, 0}, {0, 5, -1}, {0, 5, 10000}};
        for (int[] w : wrong) {
            Checks.due("village(" + w[0] + ", " + w[1] + ", " + w[2] + ")", x.village(w[0], w[1], w[2]), -1);
        }
        Checks.due("count(1) behind refused ones", x.count(1), 0);
        Checks.due("village greatest", x.village(40404040, 9, 9999), 0);
        Checks.due("village least", x.village(0, 1, 0), 1);
        for (int k = 2; k < 8; k++) {
            Checks.due("village " + k, x.village(1020304, 5, k), k);
        }
        Checks.due("ninth village", x.village(0, 1, 0), -1);
        Checks.due("count(1)", x.count(1), 8);
        Checks.due("is(0, 0)", x.is(0, 0), 9999);
        Checks.due("is(7, 0)", x.is(7, 0), 7);
        idleOfSeasons();
    }

    private static void idleOfSeasons() {
        WheelLand x = new WheelLand();
        x.village(1020304, 9, 9999);
        x.house(0, 1201);
        x.aim(0, 4);
        // one WHEEL, SKILL 2, AIM 4: IDLE * 12 / 24
        int[] want = {0, 1, 1, 2};
        for (int season = 0; season < 4; season++) {
            x.go(13);
            Checks.due("spun in season " + season, x.told(season * 13, 1), want[season]);
        }
        x.go(1);
        Checks.due("spun in the fifth season", x.told(52, 1), 0);
    }

    private static void roads() {
        WheelLand x = new WheelLand();
        for (int k = 0; k < 5; k++) {
            x.village(0, 5, 0);
        }
        Checks.due("far to itself", x.far(3, 3), 0);
        Checks.due("far without roads", x.far(0, 1), -1);
        Checks.due("road(0, 1, 9)", x.road(0, 1, 9), true);
        Checks.due("road(1, 2, 1)", x.road(1, 2, 1), true);
        Checks.due("road(2, 0, 3)", x.road(2, 0, 3), true);
        Checks.due("far round", x.far(0, 1), 4);
        Checks.due("far back", x.far(1, 0), 4);
        Checks.due("road told anew", x.road(0, 2, 9), true);
        Checks.due("far in place of what was", x.far(0, 1), 9);
        Checks.due("far(0, 2)", x.far(0, 2), 9);
        Checks.due("road to none", x.road(0, 5, 1), false);
        Checks.due("road from none", x.road(-1, 0, 1), false);
        Checks.due("road to itself", x.road(2, 2, 1), false);
        Checks.due("road of 0 days", x.road(0, 1, 0), false);
        Checks.due("road of 10 days", x.road(0, 1, 10), false);
        Checks.due("far behind refused ones", x.far(0, 1), 9);
        Checks.due("far(0, 3)", x.far(0, 3), -1);
        Checks.due("far(0, 5)", x.far(0, 5), -1);
        Checks.due("far(5, 5)", x.far(5, 5), -1);
        Checks.due("far(-1, -1)", x.far(-1, -1), -1);
        Checks.due("far by the first village", x.far(1, 2), 1);
        x.road(1, 2, 9);
        x.road(0, 1, 3);
        x.road(0, 2, 2);
        Checks.due("far by the first village", x.far(1, 2), 5);
        x.road(0, 1, 9);
        x.road(1, 2, 1);
        x.road(0, 2, 9);
        x.road(2, 3, 9);
        x.road(3, 4, 9);
        Checks.due("far by four roads", x.far(4, 0), 27);
        Checks.due("far by three roads", x.far(1, 4), 19);
    }

    private static void houses() {
        WheelLand x = new WheelLand();
        Checks.due("house in none", x.house(0, 1111), -1);
        x.village(0, 5, 0);
        int[] wrong = {6111, 1011, 1161, 1191, 1110, 0, -1, -1111, 10111, Integer.MAX_VALUE, Integer.MIN_VALUE};
        for (int what : wrong) {
            Checks.due("house(0, " + what + ")", x.house(0, what), -1);
        }
        Checks.due("house(1, 1111)", x.house(1, 1111), -1);
        Checks.due("house(-1, 1111)", x.house(-1, 1111), -1);
        Checks.due("count(2)", x.count(2), 0);
        Checks.due("house greatest", x.house(0, 5959), 0);
        Checks.due("house least", x.house(0, 101), 1);
        int[] greatest = {0, 5, 9, 5, 9, 0, 10, 0, 0, 0, -1};
        int[] least = {0, 0, 1, 0, 1, 0, 10, 0, 0, 0, -1};
        for (int what = 0; what <= 10; what++) {
            Checks.due("has(0, " + what + ")", x.has(0, what), greatest[what]);
            Checks.due("has(1, " + what + ")", x.has(1, what), least[what]);
        }
        for (int k = 2; k < 20; k++) {
            Checks.due("house " + k, x.house(0, 1234), k);
        }
        Checks.due("house 21", x.house(0, 1234), -1);
        Checks.due("count(2) full", x.count(2), 20);
    }

    private static void looms() {
        WheelLand x = new WheelLand();
        x.village(0, 5, 0);
        x.house(0, 1111);
        x.house(0, 1111);
        int[][] wrong = {
            {0, 320, 5}, {0, 461, 5}, {0, 2010, 5}, {0, 420, 0}, {0, 420, 41}, {0, -420, 5}, {2, 420, 5},
            {-1, 420, 5}, {0, 6161, 5}, {0, 0, 5}, {0, Integer.MIN_VALUE, 5}, {0, 420, -1}};
        for (int[] w : wrong) {
            Checks.due("loom(" + w[0] + ", " + w[1] + ", " + w[2] + ")", x.loom(w[0], w[1], w[2]), false);
        }
        Checks.due("has(0, 10) without", x.has(0, 10), -1);
        Checks.due("loom(0, 460, 40)", x.loom(0, 460, 40), true);
        Checks.due("has(0, 10) with", x.has(0, 10), 0);
        Checks.due("a second loom", x.loom(0, 460, 1), false);
        Checks.due("loom(1, 6060, 1)", x.loom(1, 6060, 1), true);
    }

    private static void aims() {
        WheelLand x = new WheelLand();
        x.village(0, 5, 0);
        x.house(0, 1111);
        Checks.due("aim(0, 3)", x.aim(0, 3), false);
        Checks.due("aim(0, 61)", x.aim(0, 61), false);
        Checks.due("aim(1, 10)", x.aim(1, 10), false);
        Checks.due("aim(-1, 10)", x.aim(-1, 10), false);
        Checks.due("has(0, 6)", x.has(0, 6), 10);
        Checks.due("aim(0, 4)", x.aim(0, 4), true);
        Checks.due("has(0, 6)", x.has(0, 6), 4);
        Checks.due("aim(0, 60)", x.aim(0, 60), true);
        Checks.due("has(0, 6)", x.has(0, 6), 60);
    }

    private static void coins() {
        WheelLand x = new WheelLand();
        x.village(0, 5, 0);
        x.house(0, 1111);
        Checks.due("coins(0, 10000)", x.coins(0, 10000), WheelLand.VOID);
        Checks.due("coins(0, -10000)", x.coins(0, -10000), WheelLand.VOID);
        Checks.due("coins(1, 5)", x.coins(1, 5), WheelLand.VOID);
        Checks.due("coins(-1, 5)", x.coins(-1, 5), WheelLand.VOID);
        Checks.due("coins(0, -9999)", x.coins(0, -9999), -9999);
        Checks.due("coins(0, 0)", x.coins(0, 0), -9999);
        Checks.due("coins(0, 9999)", x.coins(0, 9999), 0);
        Checks.due("coins(0, 9999)", x.coins(0, 9999), 9999);
        Checks.due("coins(0, 9999)", x.coins(0, 9999), 19998);
        Checks.due("has(0, 5)", x.has(0, 5), 19998);
    }

    private static void cotton() {
        WheelLand x = new WheelLand();
        x.village(0, 5, 9000);
        Checks.due("cotton(0, 0)", x.cotton(0, 0), -1);
        Checks.due("cotton(0, -1)", x.cotton(0, -1), -1);
        Checks.due("cotton(0, 1000)", x.cotton(0, 1000), -1);
        Checks.due("cotton(1, 5)", x.cotton(1, 5), -1);
        Checks.due("cotton(-1, 5)", x.cotton(-1, 5), -1);
        Checks.due("cotton(0, 999)", x.cotton(0, 999), 9999);
        Checks.due("cotton(0, 1)", x.cotton(0, 1), -1);
        Checks.due("cotton(0, max)", x.cotton(0, Integer.MAX_VALUE), -1);
        Checks.due("is(0, 0)", x.is(0, 0), 9999);
    }

    private static void behindTheLastWeek() {
        WheelLand x = new WheelLand();
        x.village(0, 5, 0);
        for (int k = 0; k < 6; k++) {
            x.go(26);
        }
        Checks.due("house at 156", x.house(0, 1111), -1);
        Checks.due("count(2)", x.count(2), 0);
        Checks.due("village at 156", x.village(0, 5, 0), 1);
        Checks.due("road at 156", x.road(0, 1, 5), true);
    }
}
