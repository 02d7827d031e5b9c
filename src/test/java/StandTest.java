/** Promises 40 to 44: weeks told and checked, and what stands of villages, houses and the land. */
public final class StandTest {
    public static void main(String[] args) {
        told();
        checked();
        masks();
        villages();
        houses();
        counts();
        Checks.finish("StandTest");
    }

    /** House 0 spins 10 hanks a week; house 1 weaves. */
    private static WheelLand land() {
        WheelLand x = new WheelLand();
        x.village(10203040, 5, 100);
        x.village(0, 5, 40);
        x.house(0, 2504);
        x.house(0, 321);
        x.loom(1, 1020, 20);
        x.go(1);
        x.pay(1, 0, 3);
        x.weave(1, 0, 4);
        x.go(1);
        x.pay(0, 1, 2);
        x.go(1);
        return x;
    }

    private static void told() {
        WheelLand x = land();
        int[][] want = {{139, 10, 10, 0, 0, 10}, {138, 10, 13, 3, 4, 20}, {137, 10, 21, 5, 4, 30}};
        for (int week = 0; week < 3; week++) {
            for (int number = 0; number < 6; number++) {
                Checks.due("told(" + week + ", " + number + ")", x.told(week, number), want[week][number]);
            }
        }
        x.pay(0, 0, 1);
        Checks.due("told stays", x.told(2, 3), 5);
        int[][] wrong = {{3, 0}, {-1, 0}, {0, 6}, {0, -1}, {156, 0}, {Integer.MAX_VALUE, 0}};
        for (int[] w : wrong) {
            Checks.due("told(" + w[0] + ", " + w[1] + ")", x.told(w[0], w[1]), -1);
            Checks.due("check(" + w[0] + ", " + w[1] + ", 1)", x.check(w[0], w[1], 1), -1);
        }
        Checks.due("told in a new land", new WheelLand().told(0, 0), -1);
        Checks.due("check in a new land", new WheelLand().check(0, 0, 0), -1);
    }

    private static void checked() {
        WheelLand x = land();
        int[] want = {0, 2, 1, 1, 1, 1};
        int[] masks = {1, 2, 4, 1 << 20, 1 << 30, 1 << 31, -1, Integer.MAX_VALUE};
        for (int week = 0; week < 3; week++) {
            for (int number = 0; number < 6; number++) {
                Checks.due("check(" + week + ", " + number + ", 0)", x.check(week, number, 0), 0);
                for (int mask : masks) {
                    Checks.due("check(" + week + ", " + number + ", " + mask + ")",
                            x.check(week, number, mask), want[number]);
                }
            }
        }
        Checks.due("check changes nothing", x.told(1, 2), 13);
    }

    private static void masks() {
        WheelLand x = new WheelLand();
        x.go(2);
        for (int number = 1; number < 6; number++) {
            Checks.due("check of naught, " + number, x.check(1, number, 1), number == 1 ? 2 : 1);
        }
        Checks.due("check(1, 0, -1)", x.check(1, 0, -1), 0);
        WheelLand y = new WheelLand();
        for (int k = 0; k < 6; k++) {
            y.go(26);
        }
        Checks.due("check(155, 5, 0)", y.check(155, 5, 0), 0);
        Checks.due("check(156, 5, 0)", y.check(156, 5, 0), -1);
    }

    private static void villages() {
        WheelLand x = land();
        x.bring(0, 0);
        x.mill(0, 7);
        x.price(0, 3312);
        x.talk(0, 13);
        x.sold(0, 55);
        int[] want = {97, 2, 0, 7, 33, 12, 13, 0, 55, 0, 0};
        for (int what = 0; what <= 10; what++) {
            Checks.due("is(0, " + what + ")", x.is(0, what), want[what]);
        }
        Checks.due("is(0, 11)", x.is(0, 11), -1);
        Checks.due("is(0, -1)", x.is(0, -1), -1);
        Checks.due("is(2, 0)", x.is(2, 0), -1);
        Checks.due("is(-1, 0)", x.is(-1, 0), -1);
    }

    private static void houses() {
        WheelLand x = land();
        x.coins(0, 77);
        // HEADS 4 had no cloth in week 0
        int[] want = {0, 2, 5, 0, 4, 76, 10, 1, 0, 0, -1};
        int[] weaver = {0, 0, 3, 2, 1, 1, 10, 0, 0, 0, 0};
        for (int what = 0; what <= 10; what++) {
            Checks.due("has(0, " + what + ")", x.has(0, what), want[what]);
            Checks.due("has(1, " + what + ")", x.has(1, what), weaver[what]);
        }
        Checks.due("has(0, 11)", x.has(0, 11), WheelLand.VOID);
        Checks.due("has(0, -1)", x.has(0, -1), WheelLand.VOID);
        Checks.due("has(2, 0)", x.has(2, 0), WheelLand.VOID);
        Checks.due("has(-1, 0)", x.has(-1, 0), WheelLand.VOID);
    }

    private static void counts() {
        WheelLand x = land();
        Checks.enforce(x, "duty 3;", 3);
        Checks.write(x, "owe");
        x.ask(0);
        x.ask(1);
        x.gift(5, 0, 0);
        x.mill(0, 5);
        x.coins(0, 77);
        x.go(2);
        int[] want = {5, 2, 2, 5, 1, 1, 3, 2, 1, 3};
        for (int what = 0; what <= 9; what++) {
            Checks.due("count(" + what + ")", x.count(what), want[what]);
        }
        Checks.due("count(10)", x.count(10), -1);
        Checks.due("count(-1)", x.count(-1), -1);
    }
}
