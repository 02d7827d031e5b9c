/** "What is refused changes nothing": each refused call of each promise, its edges and the values beside them. */
public final class RefusedTest {
    private static final int NONE = WheelLand.NONE;
    private static final int VOID = WheelLand.VOID;
    private static final int LEAST = Integer.MIN_VALUE;
    private static final int MOST = Integer.MAX_VALUE;

    public static void main(String[] args) {
        Checks.sentence("What is refused changes nothing.");
        villages();
        roads();
        houses();
        looms();
        aimsAndCoins();
        cotton();
        weeks();
        bytes();
        sheets();
        forces();
        payments();
        barred();
        weaving();
        lotsTold();
        bringing();
        milling();
        prices();
        talk();
        sold();
        gifts();
        behindTheLastWeek();
        questions();
        Checks.finish("RefusedTest");
    }

    /**
     * Villages 0 and 1 (a road of 3 days) and 2 (none); houses 0 (spins 10 hanks), 1 (a loom of 4 .. 20),
     * 2 (in village 1, spins 31, a loom of 11 .. 60) and 3 (in village 2, a loom); NOW is 2.
     */
    private static WheelLand land() {
        WheelLand x = new WheelLand();
        x.village(10203040, 9, 500);
        x.village(10203040, 9, 9990);
        x.village(0, 5, 0);
        x.road(0, 1, 3);
        x.house(0, 2504);
        x.house(0, 321);
        x.house(1, 5932);
        x.house(2, 1111);
        x.loom(1, 420, 20);
        x.loom(2, 1160, 40);
        x.loom(3, 460, 5);
        Checks.enforce(x, "owe 3; wage hanks*2; duty 1; stamp hanks>3;", 0);
        x.go(2);
        x.weave(1, 0, 4);
        x.weave(1, 2, 2);
        x.weave(1, 0, 4);
        x.bring(0, 0);
        x.pay(2, 1, 3);
        goods(x);
        x.ask(1);
        x.ask(2);
        x.gift(5, 0, 0);
        x.gift(3, 1, 1);
        Checks.write(x, "wage 5; may hanks<9;");
        return x;
    }

    private static void goods(WheelLand x) {
        x.coins(0, 100);
        x.coins(2, 50);
        x.mill(0, 5);
        x.mill(1, 3);
        x.price(1, 1512);
        x.talk(0, 5);
        x.sold(0, 4);
        x.sold(1, 1);
    }

    private static void villages() {
        int[] idles = {41000000, 410000, 4100, 41, 99000000, 990000, 9900, 99, 100000000, -1, -10000000, LEAST, MOST};
        for (int idle : idles) {
            Twins.refused("village(" + idle + ", 5, 5)", RefusedTest::land, x -> x.village(idle, 5, 5));
        }
        for (int staple : new int[] {0, 10, -1, LEAST, MOST}) {
            Twins.refused("village(0, " + staple + ", 5)", RefusedTest::land, x -> x.village(0, staple, 5));
        }
        for (int cotton : new int[] {-1, 10000, LEAST, MOST}) {
            Twins.refused("village(0, 5, " + cotton + ")", RefusedTest::land, x -> x.village(0, 5, cotton));
        }
        Twins.refused("a ninth village", RefusedTest::eightVillages, x -> x.village(40404040, 9, 9999));
    }

    private static WheelLand eightVillages() {
        WheelLand x = land();
        for (int k = 3; k < 8; k++) {
            x.village(k, 5, k);
        }
        Checks.due("villages", x.count(1), 8);
        return x;
    }

    private static void roads() {
        int[][] wrong = {
            {0, 1, 0}, {0, 1, 10}, {0, 1, -1}, {0, 1, LEAST}, {0, 1, MOST}, {1, 1, 1}, {2, 2, 9},
            {0, 3, 1}, {3, 0, 1}, {-1, 0, 1}, {0, -1, 1}, {8, 9, 1}, {LEAST, 0, 1}, {0, MOST, 1}};
        for (int[] w : wrong) {
            Twins.refused("road(" + w[0] + ", " + w[1] + ", " + w[2] + ")", RefusedTest::land,
                    x -> x.road(w[0], w[1], w[2]) ? 1 : 0, 0);
        }
    }

    private static void houses() {
        int[] wrong = {6111, 9111, 1011, 11, 1161, 1191, 1110, 0, -1, -1111, 10111, LEAST, MOST};
        for (int what : wrong) {
            Twins.refused("house(0, " + what + ")", RefusedTest::land, x -> x.house(0, what));
        }
        for (int village : new int[] {3, -1, 8, LEAST, MOST}) {
            Twins.refused("house(" + village + ", 1111)", RefusedTest::land, x -> x.house(village, 1111));
        }
        Twins.refused("house 21", RefusedTest::twentyHouses, x -> x.house(0, 5959));
    }

    private static WheelLand twentyHouses() {
        WheelLand x = land();
        for (int k = 4; k < 20; k++) {
            x.house(1, 1111);
        }
        Checks.due("houses", x.count(2), 20);
        return x;
    }

    private static void looms() {
        int[][] wrong = {
            {0, 320, 5}, {0, 461, 5}, {0, 360, 5}, {0, 2019, 5}, {0, 6059, 5}, {0, 6161, 5}, {0, 6060, 0},
            {0, 460, 41}, {0, 460, -1}, {0, 460, LEAST}, {0, 460, MOST}, {0, -460, 5}, {0, 0, 5}, {0, 4, 5},
            {0, 400, 5}, {0, LEAST, 5}, {0, MOST, 5}, {1, 460, 5}, {3, 460, 5}, {4, 460, 5}, {-1, 460, 5},
            {LEAST, 460, 5}, {MOST, 460, 5}};
        for (int[] w : wrong) {
            Twins.refused("loom(" + w[0] + ", " + w[1] + ", " + w[2] + ")", RefusedTest::land,
                    x -> x.loom(w[0], w[1], w[2]) ? 1 : 0, 0);
        }
    }

    private static void aimsAndCoins() {
        int[][] aims = {{0, 3}, {0, 61}, {0, 0}, {0, -10}, {0, LEAST}, {0, MOST}, {4, 10}, {-1, 10}, {MOST, 10}};
        for (int[] w : aims) {
            Twins.refused("aim(" + w[0] + ", " + w[1] + ")", RefusedTest::land, x -> x.aim(w[0], w[1]) ? 1 : 0, 0);
        }
        int[][] coins = {{0, 10000}, {0, -10000}, {0, LEAST}, {0, MOST}, {4, 1}, {-1, 1}, {20, 1}, {LEAST, 1}};
        for (int[] w : coins) {
            Twins.refused("coins(" + w[0] + ", " + w[1] + ")", RefusedTest::land, x -> x.coins(w[0], w[1]), VOID);
        }
    }

    private static void cotton() {
        // village 1 has 9990 less two weeks of 4 pounds
        Checks.due("cotton of village 1", land().is(1, 0), 9982);
        int[][] wrong = {
            {0, 0}, {0, -1}, {0, 1000}, {0, LEAST}, {0, MOST}, {1, 18}, {1, 999}, {3, 1}, {-1, 1}, {8, 1}, {MOST, 1}};
        for (int[] w : wrong) {
            Twins.refused("cotton(" + w[0] + ", " + w[1] + ")", RefusedTest::land, x -> x.cotton(w[0], w[1]));
        }
        Checks.due("cotton up to 9999", land().cotton(1, 17), 9999);
    }

    private static void weeks() {
        for (int n : new int[] {-1, 27, LEAST, MOST}) {
            Twins.refused("go(" + n + ")", RefusedTest::land, x -> x.go(n));
        }
        Twins.refused("go(0)", RefusedTest::land, x -> x.go(0), 2);
    }

    private static WheelLand bytesOf(int many) {
        WheelLand x = land();
        while (x.feed(0x6f776520, 0x20202020, 0x20202020, 0x20202020, 0x20202020) > 0) {
            if (x.count(6) >= many) {
                break;
            }
        }
        x.end(many);
        Checks.due("bytes", x.count(6), many);
        return x;
    }

    private static void bytes() {
        for (int many : new int[] {400, 399, 390, 381}) {
            Twins.refused("feed behind " + many, () -> bytesOf(many), x -> x.feed(1, 2, 3, 4, 5));
        }
        Checks.due("feed behind 380", bytesOf(380).feed(1, 2, 3, 4, 5), 400);
        for (int n : new int[] {21, -1, 400, LEAST, MOST}) {
            Twins.refused("end(" + n + ")", RefusedTest::land, x -> x.end(n) ? 1 : 0, 0);
        }
        Twins.refused("end(20) of 20", RefusedTest::land, x -> x.end(20) ? 1 : 0, 1);
    }

    private static void sheets() {
        for (String text : new String[] {"owe", "owe 10000;", "owe 1; owe 2;", "$"}) {
            Twins.refused("sheet of " + text, () -> written(text), x -> x.sheet());
        }
        Twins.refused("a ninth sheet", RefusedTest::eightSheets, x -> x.sheet());
    }

    private static WheelLand written(String text) {
        WheelLand x = land();
        Checks.write(x, text);
        return x;
    }

    private static WheelLand eightSheets() {
        WheelLand x = land();
        for (int k = 1; k < 8; k++) {
            Checks.enforce(x, "duty " + k + ";", 2);
        }
        Checks.due("sheets", x.count(4), 8);
        Checks.write(x, "duty 9;");
        return x;
    }

    private static void forces() {
        int[][] wrong = {
            {1, 2}, {-1, 2}, {8, 2}, {LEAST, 2}, {MOST, 2}, {0, 1}, {0, 0}, {0, -1}, {0, 156}, {0, LEAST}, {0, MOST}};
        for (int[] w : wrong) {
            Twins.refused("force(" + w[0] + ", " + w[1] + ")", RefusedTest::otherInForce, x -> x.force(w[0], w[1]));
        }
        Twins.refused("force 13", RefusedTest::twelveForces, x -> x.force(0, 2));
        Twins.refused("force 13 at 155", RefusedTest::twelveForces, x -> x.force(0, 155));
    }

    private static WheelLand otherInForce() {
        WheelLand x = new WheelLand();
        x.village(0, 5, 0);
        x.house(0, 1111);
        Checks.enforce(x, "owe 5;", 2);
        x.go(2);
        return x;
    }

    private static WheelLand twelveForces() {
        WheelLand x = land();
        x.sheet();
        for (int k = 2; k <= 12; k++) {
            Checks.due("force", x.force(1, 2), k);
        }
        return x;
    }

    private static void payments() {
        // lot 1 has 28 hanks left of 31
        Checks.due("hanks left", land().lot(1, 5), 28);
        int[][] wrong = {
            {0, 1, 29}, {0, 1, 0}, {0, 1, -1}, {0, 1, LEAST}, {0, 1, MOST}, {4, 1, 1}, {-1, 1, 1}, {MOST, 1, 1},
            {0, 4, 1}, {0, -1, 1}, {0, LEAST, 1}};
        for (int[] w : wrong) {
            Twins.refused("pay(" + w[0] + ", " + w[1] + ", " + w[2] + ")", RefusedTest::land,
                    x -> x.pay(w[0], w[1], w[2]), VOID);
        }
        Checks.due("all that is left", land().pay(0, 1, 28), -28);
    }

    /** The bars 1 .. 7, each met by house and lot as land() says. */
    private static void barred() {
        int[][] wrong = {{0, 0, 2, 1}, {2, 0, 2, 2}, {3, 2, 2, 4}, {1, 0, 4, 6}, {1, 1, 14, 7}};
        for (int[] w : wrong) {
            Checks.due("bar(" + w[0] + ", " + w[1] + ", " + w[2] + ")", land().bar(w[0], w[1], w[2]), w[3]);
            Twins.refused("weave(" + w[0] + ", " + w[1] + ", " + w[2] + ")", RefusedTest::land,
                    x -> x.weave(w[0], w[1], w[2]));
        }
        Checks.due("bar of a weak lot", weak().bar(1, 1, 2), 3);
        Twins.refused("weave of a weak lot", RefusedTest::weak, x -> x.weave(1, 1, 2));
        Checks.due("bar by may", mayNot().bar(1, 2, 2), 5);
        Twins.refused("weave where may doesn't hold", RefusedTest::mayNot, x -> x.weave(1, 2, 2));
    }

    /** Lot 1 is of a village of STAPLE 2: 40 and 3 less 20 is below 10 and 30. */
    private static WheelLand weak() {
        WheelLand x = new WheelLand();
        x.village(40404040, 9, 100);
        x.village(40404040, 2, 100);
        x.road(0, 1, 3);
        x.house(0, 1504);
        x.house(0, 321);
        x.house(1, 5111);
        x.loom(1, 420, 20);
        x.go(2);
        return x;
    }

    private static WheelLand mayNot() {
        WheelLand x = land();
        x.sheet();
        Checks.enforce(x, "may hanks=4;", 2);
        return x;
    }

    private static void weaving() {
        for (int n : new int[] {0, 1, 3, 5, -2, 101, 102, LEAST, MOST}) {
            Twins.refused("weave(1, 2, " + n + ")", RefusedTest::land, x -> x.weave(1, 2, n));
        }
        int[][] wrong = {{4, 2}, {-1, 2}, {20, 2}, {MOST, 2}, {1, 4}, {1, -1}, {1, 300}, {1, LEAST}};
        for (int[] w : wrong) {
            Twins.refused("weave(" + w[0] + ", " + w[1] + ", 2)", RefusedTest::land, x -> x.weave(w[0], w[1], 2));
        }
        Twins.refused("cloth 201", RefusedTest::twoHundredCloths, x -> x.weave(1, 0, 2));
    }

    private static WheelLand twoHundredCloths() {
        WheelLand x = new WheelLand();
        x.village(40404040, 9, 9999);
        x.house(0, 5921);
        x.house(0, 121);
        x.aim(0, 4);
        x.loom(1, 404, 40);
        x.go(3);
        for (int k = 0; k < 200; k++) {
            x.weave(1, k / 78, 2);
            if (k % 20 == 19) {
                x.go(1);
            }
        }
        Checks.due("cloths", x.count(5), 200);
        Checks.due("no bar", x.bar(1, 0, 2), 0);
        return x;
    }

    private static void lotsTold() {
        for (int lot : new int[] {1, 2, 4, -1, 300, LEAST, MOST}) {
            Twins.refused("ask(" + lot + ")", RefusedTest::land, x -> x.ask(lot));
        }
        Twins.refused("a seventh lot", RefusedTest::sixLots, x -> x.ask(6));
        Twins.refused("a lot that is told, of six", RefusedTest::sixLots, x -> x.ask(0));
        Twins.refused("clear of none", RefusedTest::otherInForce, x -> x.clear(), 0);
    }

    private static WheelLand sixLots() {
        WheelLand x = land();
        x.go(2);
        for (int lot : new int[] {0, 3, 4, 5}) {
            x.ask(lot);
        }
        Checks.due("lots told", x.count(7), 6);
        return x;
    }

    private static void bringing() {
        int[][] wrong = {
            {0, 0}, {0, 1}, {1, 2}, {1, 3}, {1, -1}, {1, MOST}, {3, 0}, {-1, 0}, {200, 0}, {LEAST, 0}};
        Checks.due("cloths", land().count(5), 3);
        for (int[] w : wrong) {
            Twins.refused("bring(" + w[0] + ", " + w[1] + ")", RefusedTest::land, x -> x.bring(w[0], w[1]));
        }
    }

    private static WheelLand full() {
        WheelLand x = land();
        for (int k = 0; k < 9; k++) {
            x.mill(0, 999);
            x.sold(0, 999);
        }
        x.mill(0, 995);
        x.sold(0, 996);
        Checks.due("mill yards", x.is(0, 3), 9991);
        Checks.due("sold", x.is(0, 8), 9991);
        return x;
    }

    private static void milling() {
        int[][] wrong = {
            {0, 0}, {0, -1}, {0, 1000}, {0, LEAST}, {0, MOST}, {3, 1}, {-1, 1}, {8, 1}, {MOST, 1}};
        for (int[] w : wrong) {
            Twins.refused("mill(" + w[0] + ", " + w[1] + ")", RefusedTest::land, x -> x.mill(w[0], w[1]));
        }
        Twins.refused("mill beyond 9999", RefusedTest::full, x -> x.mill(0, 9));
        Twins.refused("mill far beyond 9999", RefusedTest::full, x -> x.mill(0, 999));
        Checks.due("mill up to 9999", full().mill(0, 8), 9999);
    }

    private static void prices() {
        int[] wrong = {0, 1, 99, 100, 500, 9900, 10000, 10001, 10050, -101, -1, LEAST, MOST};
        for (int prices : wrong) {
            Twins.refused("price(0, " + prices + ")", RefusedTest::land, x -> x.price(0, prices) ? 1 : 0, 0);
        }
        for (int village : new int[] {3, -1, 8, LEAST, MOST}) {
            Twins.refused("price(" + village + ", 101)", RefusedTest::land, x -> x.price(village, 101) ? 1 : 0, 0);
        }
    }

    private static void talk() {
        int[][] wrong = {{0, 21}, {0, -1}, {0, LEAST}, {0, MOST}, {3, 1}, {-1, 1}, {8, 1}, {MOST, 20}};
        for (int[] w : wrong) {
            Twins.refused("talk(" + w[0] + ", " + w[1] + ")", RefusedTest::land, x -> x.talk(w[0], w[1]));
        }
    }

    private static void sold() {
        int[][] wrong = {{0, 0}, {0, -1}, {0, 1000}, {0, LEAST}, {0, MOST}, {3, 1}, {-1, 1}, {8, 1}, {LEAST, 1}};
        for (int[] w : wrong) {
            Twins.refused("sold(" + w[0] + ", " + w[1] + ")", RefusedTest::land, x -> x.sold(w[0], w[1]));
        }
        Twins.refused("sold beyond 9999", RefusedTest::full, x -> x.sold(0, 9));
        Checks.due("sold up to 9999", full().sold(0, 8), 9999);
    }

    private static void gifts() {
        int[][] wrong = {
            {0, 0, 0}, {100, 0, 0}, {-1, 0, 0}, {LEAST, 0, 0}, {MOST, 0, 0}, {5, 4, 0}, {5, -1, 0}, {5, 20, 0},
            {5, MOST, 0}, {5, 0, 3}, {5, 0, -1}, {5, 0, LEAST}, {5, 0, MOST}};
        for (int[] w : wrong) {
            Twins.refused("gift(" + w[0] + ", " + w[1] + ", " + w[2] + ")", RefusedTest::land,
                    x -> x.gift(w[0], w[1], w[2]));
        }
        Twins.refused("a ninth gift", RefusedTest::eightGifts, x -> x.gift(1, 2, 0));
        Twins.refused("forget of none", RefusedTest::otherInForce, x -> x.forget(), 0);
    }

    private static WheelLand eightGifts() {
        WheelLand x = land();
        for (int k = 2; k < 8; k++) {
            x.gift(1, 0, 1);
        }
        Checks.due("gifts", x.count(8), 8);
        return x;
    }

    private static WheelLand ended() {
        WheelLand x = land();
        x.sheet();
        for (int k = 0; k < 6; k++) {
            x.go(26);
        }
        Checks.due("NOW", x.count(0), 156);
        return x;
    }

    private static void behindTheLastWeek() {
        Twins.refused("house at 156", RefusedTest::ended, x -> x.house(0, 1111));
        Checks.due("bar at 156", ended().bar(1, 2, 2), 0);
        Twins.refused("weave at 156", RefusedTest::ended, x -> x.weave(1, 2, 2));
        Twins.refused("force(1, 155) at 156", RefusedTest::ended, x -> x.force(1, 155));
        Twins.refused("force(1, 156) at 156", RefusedTest::ended, x -> x.force(1, 156));
        Twins.refused("go(1) at 156", RefusedTest::ended, x -> x.go(1), 156);
        Twins.refused("go(26) at 156", RefusedTest::ended, x -> x.go(26), 156);
        Twins.refused("go(27) at 156", RefusedTest::ended, x -> x.go(27));
        Twins.refused("heard at 156", RefusedTest::ended, x -> x.heard(0, 1));
        Twins.refused("best at 156", RefusedTest::ended, x -> x.best(9, 0));
        Twins.refused("keeps at 156", RefusedTest::ended, x -> x.keeps(0, 1));
    }

    /** What is only asked changes nothing either, whether there is an answer or none. */
    private static void questions() {
        int[] numbers = {LEAST, -1, 0, 1, 3, 5, 6, 11, 20, 300, MOST};
        Twins.refused("questions of one number", RefusedTest::land, x -> {
            long all = 0;
            for (int n : numbers) {
                all += x.likes(n) + x.count(n) + x.hungry(n) + x.look() + x.fault() + x.wrong(n, true);
            }
            return all == 0 ? 1 : 0;
        }, 0);
        Twins.refused("questions of two numbers", RefusedTest::land, x -> askOfTwo(x, numbers), 0);
        Twins.refused("hands and best", RefusedTest::land, x -> {
            for (int n : numbers) {
                x.hands(n, 0);
                x.hands(6, n);
                x.best(n, 1);
                x.best(9, n);
                x.check(1, n, -1);
                x.bar(1, 2, n);
            }
            return 0;
        }, 0);
    }

    private static long askOfTwo(WheelLand x, int[] numbers) {
        for (int n : numbers) {
            x.far(0, n);
            x.lot(n, 5);
            x.lot(1, n);
            x.why(n, 2);
            x.why(1, n);
            x.due(n, 0);
            x.due(0, n);
            x.cloth(n, 0);
            x.cloth(0, n);
            x.heard(n, 0);
            x.keeps(n, 1);
            x.keeps(0, n);
            x.told(n, 0);
            x.told(1, n);
            x.is(0, n);
            x.has(0, n);
        }
        return 0;
    }
}
