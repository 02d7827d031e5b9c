/** Promises 10 and 11: weeks that end, and lots. */
public final class WeeksTest {
    public static void main(String[] args) {
        weeks();
        spinning();
        scarceCotton();
        nothingSpun();
        threeHundred();
        Checks.finish("WeeksTest");
    }

    private static void weeks() {
        WheelLand x = new WheelLand();
        Checks.due("go(-1)", x.go(-1), -1);
        Checks.due("go(27)", x.go(27), -1);
        Checks.due("go(0)", x.go(0), 0);
        Checks.due("count(0)", x.count(0), 0);
        Checks.due("go(1)", x.go(1), 1);
        for (int k = 1; k <= 5; k++) {
            Checks.due("go(26)", x.go(26), 1 + 26 * k);
        }
        Checks.due("go up to 156", x.go(26), 156);
        Checks.due("go(5) at 156", x.go(5), 156);
        Checks.due("go(0) at 156", x.go(0), 156);
        Checks.due("go(27) at 156", x.go(27), -1);
        Checks.due("told(155, 0)", x.told(155, 0), 0);
    }

    private static void spinning() {
        WheelLand x = new WheelLand();
        x.village(10203040, 5, 100);
        x.house(0, 3711);
        x.house(0, 2211);
        x.aim(1, 33);
        x.go(14);
        // 30 * 17 / 30 = 17 by 2 pounds; 20 * 12 / 53 = 4 by 1 pound
        int[] first = {0, 0, 10, 101, 17, 17};
        int[] second = {1, 0, 33, 40, 4, 4};
        for (int what = 0; what <= 5; what++) {
            Checks.due("lot(0, " + what + ")", x.lot(0, what), first[what]);
            Checks.due("lot(1, " + what + ")", x.lot(1, what), second[what]);
        }
        Checks.due("count(3)", x.count(3), 28);
        Checks.due("lot(27, 1)", x.lot(27, 1), 13);
        // in the second season 60 * 17 / 30 = 34 by 4 pounds; 40 * 12 / 53 = 9 by 1
        Checks.due("lot(26, 4)", x.lot(26, 4), 34);
        Checks.due("lot(27, 4)", x.lot(27, 4), 9);
        Checks.due("is(0, 0)", x.is(0, 0), 100 - 13 * 3 - 5);
        Checks.due("lot(28, 0)", x.lot(28, 0), -1);
        Checks.due("lot(-1, 0)", x.lot(-1, 0), -1);
        Checks.due("lot(0, 6)", x.lot(0, 6), -1);
        Checks.due("lot(0, -1)", x.lot(0, -1), -1);
    }

    private static void scarceCotton() {
        WheelLand x = new WheelLand();
        x.village(40404040, 1, 3);
        x.house(0, 1111);
        x.house(0, 5911);
        x.house(0, 5911);
        x.aim(0, 40);
        x.aim(1, 60);
        x.aim(2, 4);
        x.go(1);
        // 40 * 11 / 60 = 7 takes a begun pound; 200 * 19 / 80 = 47 takes one; one pound of 4 is left
        Checks.due("lot(0, 4)", x.lot(0, 4), 7);
        Checks.due("lot(1, 4)", x.lot(1, 4), 47);
        Checks.due("lot(2, 4)", x.lot(2, 4), 4);
        Checks.due("is(0, 0)", x.is(0, 0), 0);
        // 20 + 3 - 80 is below 0
        Checks.due("lot(0, 3)", x.lot(0, 3), 0);
        Checks.due("lot(2, 3)", x.lot(2, 3), 39);
        x.go(1);
        Checks.due("nothing without cotton", x.count(3), 3);
        x.cotton(0, 1);
        x.go(1);
        Checks.due("lot(3, 4)", x.lot(3, 4), 7);
        Checks.due("lot(3, 1)", x.lot(3, 1), 2);
        Checks.due("one lot of one pound", x.count(3), 4);
    }

    private static void nothingSpun() {
        WheelLand x = new WheelLand();
        x.village(1000000, 5, 50);
        x.house(0, 111);
        x.house(0, 1111);
        x.aim(1, 60);
        x.go(1);
        Checks.due("count(3)", x.count(3), 0);
        Checks.due("is(0, 0)", x.is(0, 0), 50);
        Checks.due("due(1, 2)", x.due(1, 2), 0);
    }

    private static void threeHundred() {
        WheelLand x = new WheelLand();
        x.village(40404040, 5, 9999);
        x.house(0, 111);
        for (int k = 1; k <= 19; k++) {
            x.house(0, 1111);
            x.aim(k, 60);
        }
        x.go(15);
        Checks.due("count(3)", x.count(3), 285);
        Checks.due("best with 285 lots", x.best(0, 1), 15 * 5);
        x.go(1);
        Checks.due("count(3)", x.count(3), 300);
        Checks.due("told(15, 1)", x.told(15, 1), 15 * 5);
        Checks.due("lot(299, 0)", x.lot(299, 0), 15);
        Checks.due("lot(300, 0)", x.lot(300, 0), -1);
        int cotton = x.is(0, 0);
        Checks.due("is(0, 0)", cotton, 9999 - 300);
        Checks.due("best with 300 lots", x.best(0, 1), 0);
        x.go(1);
        Checks.due("count(3)", x.count(3), 300);
        Checks.due("cotton stays", x.is(0, 0), cotton);
        Checks.due("can goes on", x.due(1, 2), 17 * (40 * 11 / 24));
        Checks.due("told(16, 1)", x.told(16, 1), 0);
    }
}
