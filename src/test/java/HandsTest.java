/** Promises 23 to 25: lots told, and hands for them. */
public final class HandsTest {
    public static void main(String[] args) {
        telling();
        whatCanBe();
        ways();
        daysAheadOfWeeks();
        hanksAheadOfDays();
        leftAndMay();
        barsOfHands();
        greatest();
        Checks.finish("HandsTest");
    }

    /** Lots of 31, 31 and 3 hanks (villages 0, 1, 0), looms of houses 3 (0), 4 (1) and 5 (0), a road of 3 days. */
    private static WheelLand land() {
        WheelLand x = new WheelLand();
        x.village(10101010, 9, 999);
        x.village(10101010, 9, 999);
        x.road(0, 1, 3);
        x.house(0, 5911);
        x.house(1, 5911);
        x.house(0, 1111);
        x.house(0, 111);
        x.house(1, 111);
        x.house(0, 111);
        x.loom(3, 430, 10);
        x.loom(4, 430, 7);
        x.loom(5, 430, 10);
        x.go(1);
        return x;
    }

    private static void due(WheelLand x, int looms, int... want) {
        for (int k = 0; k < want.length; k++) {
            int what = k < 3 ? k : 7 + k;
            Checks.due("hands(" + looms + ", " + what + ")", x.hands(looms, what), want[k]);
        }
    }

    private static void telling() {
        WheelLand x = land();
        x.go(2);
        Checks.due("clear of none", x.clear(), 0);
        Checks.due("ask(9)", x.ask(9), -1);
        Checks.due("ask(-1)", x.ask(-1), -1);
        for (int k = 0; k < 6; k++) {
            Checks.due("ask " + k, x.ask(8 - k), k + 1);
            Checks.due("ask again", x.ask(8 - k), -1);
        }
        Checks.due("seventh", x.ask(0), -1);
        Checks.due("count(7)", x.count(7), 6);
        Checks.due("clear", x.clear(), 6);
        Checks.due("count(7)", x.count(7), 0);
        Checks.due("ask", x.ask(8), 1);
    }

    private static void whatCanBe() {
        WheelLand x = land();
        Checks.due("without lots", x.hands(8, 0), -1);
        x.ask(0);
        x.ask(1);
        int[] wrong = {-1, 3, 9, 12, 15, 16, Integer.MAX_VALUE, Integer.MIN_VALUE};
        for (int what : wrong) {
            Checks.due("hands(8, " + what + ")", x.hands(8, what), -1);
        }
        int[] looms = {0, 64, 72, -1, Integer.MIN_VALUE, 1 << 20};
        for (int bits : looms) {
            Checks.due("hands(" + bits + ", 0)", x.hands(bits, 0), -1);
        }
        Checks.due("six looms", x.hands(63, 0), 60);
        x.house(0, 111);
        Checks.due("seven looms", x.hands(127, 0), -1);
        Checks.due("six of seven", x.hands(126, 0), 60);
        due(x, 64, 0, 0, 0, -1, -1);
        x.clear();
        Checks.due("behind clear", x.hands(8, 0), -1);
    }

    private static void ways() {
        WheelLand x = land();
        x.ask(0);
        x.ask(1);
        x.ask(2);
        due(x, 56, 62, 0, 5, 3, 4, 3);
        due(x, 40, 62, 3, 4, 3, 5, 3);
        due(x, 8, 62, 3, 7, 3, 3, 3);
        due(x, 16, 62, 6, 9, 4, 4, 4);
        due(x, 24, 62, 0, 5, 3, 4, 3);
        x.clear();
        x.ask(2);
        x.ask(1);
        x.ask(0);
        due(x, 40, 62, 3, 4, 3, 3, 5);
        due(x, 47, 62, 3, 4, 3, 3, 5);
    }

    private static void daysAheadOfWeeks() {
        WheelLand x = land();
        x.house(0, 111);
        x.house(1, 111);
        x.loom(6, 430, 1);
        x.loom(7, 430, 40);
        x.ask(0);
        due(x, 64 + 128, 30, 0, 30, 6);
        due(x, 128, 30, 3, 1, 7);
        x.loom(0, 430, 29);
        due(x, 1 + 8 + 32 + 64, 30, 0, 2, 0);
        // woven hanks take nothing from what a loom can in a week
        x.weave(0, 1, 20);
        due(x, 1 + 8 + 32 + 64, 30, 0, 2, 0);
    }

    private static void hanksAheadOfDays() {
        WheelLand x = land();
        x.village(0, 1, 0);
        x.house(2, 111);
        x.loom(6, 430, 5);
        x.ask(0);
        x.ask(1);
        due(x, 64, 0, 0, 0, -1, -1);
        x.road(1, 2, 9);
        due(x, 64, 60, 21, 12, 6, 6);
        due(x, 64 + 8, 60, 3, 6, 3, 3);
        due(x, 64 + 16, 60, 3, 9, 4, 4);
    }

    private static void leftAndMay() {
        WheelLand x = land();
        x.ask(0);
        x.ask(1);
        x.ask(2);
        x.pay(0, 2, 2);
        due(x, 56, 60, 0, 5, 3, 4, -1);
        x.pay(0, 0, 1);
        due(x, 56, 60, 0, 5, 3, 4, -1);
        x.pay(0, 0, 1);
        due(x, 56, 58, 0, 5, 3, 4, -1);
        x.weave(3, 0, 10);
        due(x, 56, 48, 0, 5, 3, 4, -1);
        Checks.enforce(x, "may hanks<30 and hanks>17;", 1);
        due(x, 56, 18, 0, 2, 3, -1, -1);
        x.pay(0, 0, 2);
        due(x, 56, 0, 0, 0, -1, -1, -1);
        x.pay(0, 1, 2);
        due(x, 56, 28, 0, 4, -1, 4, -1);
        Checks.enforce(x, "may far=3;", 1);
        due(x, 56, 44, 6, 3, 4, 3, -1);
        Checks.due("nothing is woven by it", x.count(5), 1);
        Checks.due("nothing is taken by it", x.lot(1, 5), 29);
    }

    private static void barsOfHands() {
        WheelLand x = new WheelLand();
        x.village(10101010, 2, 999);
        x.house(0, 5911);
        x.house(0, 5511);
        x.house(0, 111);
        x.house(0, 111);
        x.aim(0, 12);
        x.aim(1, 14);
        x.loom(2, 411, 10);
        x.loom(3, 460, 10);
        x.go(1);
        x.ask(0);
        x.ask(1);
        // STRENGTH 40 + 27 - 24 is 42 and more; 40 + 15 - 28 is below 44; house 2's loom bears neither
        due(x, 12, 28, 0, 3, 3, -1);
        due(x, 4, 0, 0, 0, -1, -1);
    }

    private static void greatest() {
        WheelLand x = new WheelLand();
        x.village(40404040, 9, 9999);
        for (int k = 0; k < 6; k++) {
            x.house(0, 5931);
            x.aim(k, 4);
            x.loom(k, 460, 40 - k);
        }
        x.go(1);
        for (int k = 0; k < 6; k++) {
            x.ask(k);
        }
        // 158 hanks each: 5 weeks of 39 .. 35; 316 are 9 weeks of 39 .. 36
        due(x, 63, 948, 0, 5, 0, 1, 2, 3, 4, 5);
        due(x, 62, 948, 0, 9, 1, 1, 2, 2, 3, 3);
    }
}
