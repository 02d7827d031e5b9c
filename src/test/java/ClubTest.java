/** Promises 18 and 19: what is paid, owed, could be and can't be of a house itself. */
public final class ClubTest {
    public static void main(String[] args) {
        paying();
        owing();
        owingBelow();
        latecomers();
        Checks.finish("ClubTest");
    }

    private static WheelLand twoSpinners() {
        WheelLand x = new WheelLand();
        x.village(10101010, 5, 999);
        x.house(0, 2504);
        x.house(0, 1123);
        x.go(1);
        return x;
    }

    private static void paying() {
        WheelLand x = twoSpinners();
        // 20 * 15 / 30 = 10 hanks; 10 * 11 / 30 = 3
        Checks.due("pay(0, 0, 0)", x.pay(0, 0, 0), WheelLand.VOID);
        Checks.due("pay(0, 0, -1)", x.pay(0, 0, -1), WheelLand.VOID);
        Checks.due("pay(0, 0, 11)", x.pay(0, 0, 11), WheelLand.VOID);
        Checks.due("pay(2, 0, 1)", x.pay(2, 0, 1), WheelLand.VOID);
        Checks.due("pay(-1, 0, 1)", x.pay(-1, 0, 1), WheelLand.VOID);
        Checks.due("pay(0, 2, 1)", x.pay(0, 2, 1), WheelLand.VOID);
        Checks.due("pay(0, -1, 1)", x.pay(0, -1, 1), WheelLand.VOID);
        Checks.due("lot(0, 5)", x.lot(0, 5), 10);
        Checks.due("pay(0, 0, 3)", x.pay(0, 0, 3), -3);
        Checks.due("pay(1, 0, 6)", x.pay(1, 0, 6), -6);
        Checks.due("pay(1, 1, 3)", x.pay(1, 1, 3), -9);
        Checks.due("lot(0, 5)", x.lot(0, 5), 1);
        Checks.due("lot(0, 4)", x.lot(0, 4), 10);
        Checks.due("pay more than left", x.pay(0, 0, 2), WheelLand.VOID);
        Checks.due("pay all that is left", x.pay(0, 0, 1), -4);
        Checks.due("pay of an empty lot", x.pay(0, 0, 1), WheelLand.VOID);
        // CAN: 20 * 15 / 24 = 12 and 10 * 11 / 24 = 4
        int[] first = {-4, 4, 12, 0, 0};
        int[] second = {-9, 9, 4, 5, 6};
        for (int what = 0; what <= 4; what++) {
            Checks.due("due(0, " + what + ")", x.due(0, what), first[what]);
            Checks.due("due(1, " + what + ")", x.due(1, what), second[what]);
        }
        Checks.due("due(0, 5)", x.due(0, 5), WheelLand.VOID);
        Checks.due("due(0, -1)", x.due(0, -1), WheelLand.VOID);
        Checks.due("due(2, 0)", x.due(2, 0), WheelLand.VOID);
        Checks.due("due(-1, 0)", x.due(-1, 0), WheelLand.VOID);
        x.go(1);
        Checks.due("surely, a week behind", x.due(1, 3), 1);
        Checks.due("maybe, a week behind", x.due(1, 4), 6);
        Checks.due("pay of another's lot again", x.pay(1, 2, 2), -11);
        Checks.due("maybe more", x.due(1, 4), 8);
    }

    private static void owing() {
        WheelLand x = new WheelLand();
        x.village(1020304, 5, 0);
        x.house(0, 2504);
        x.house(0, 504);
        x.house(0, 1123);
        Checks.enforce(x, "owe week*1000+season*100+heads*10+wheels+skill*500+caste*7000"
                + "+idle*900+other+count+strength+hanks+far+price;", 0);
        x.go(12);
        Checks.due("owed ahead of the season's end", x.due(0, 0), 0);
        x.go(1);
        Checks.due("owed", x.due(0, 0), 12000 + 40 + 2 + 2500 + 900);
        Checks.due("owed without wheels", x.due(1, 0), 0);
        Checks.due("owed by another", x.due(2, 0), 12000 + 30 + 1 + 500 + 14000 + 900);
        x.go(12);
        Checks.due("owed ahead of the second end", x.due(0, 0), 15442);
        x.go(1);
        Checks.due("owed more", x.due(0, 0), 15442 + 25000 + 100 + 40 + 2 + 2500 + 1800);
    }

    private static void owingBelow() {
        WheelLand x = new WheelLand();
        x.village(0, 5, 0);
        x.house(0, 1111);
        Checks.enforce(x, "owe 5-week;", 0);
        Checks.enforce(x, "owe 7;", 25);
        Checks.enforce(x, "owe 100;", 26);
        x.go(13);
        Checks.due("owed of below 0", x.due(0, 0), 0);
        x.go(13);
        Checks.due("owed by the text of the last week", x.due(0, 0), 7);
        WheelLand y = new WheelLand();
        y.village(0, 5, 0);
        y.house(0, 1111);
        y.go(13);
        Checks.due("owed without a text", y.due(0, 0), 0);
    }

    private static void latecomers() {
        WheelLand x = new WheelLand();
        x.village(10203040, 5, 0);
        x.go(12);
        x.house(0, 1211);
        Checks.due("can of a new house", x.due(0, 2), 0);
        x.go(1);
        Checks.due("can of one week", x.due(0, 2), 10 * 12 / 24);
        x.go(2);
        Checks.due("can, each week cut", x.due(0, 2), 5 + 10 + 10);
        x.house(0, 1111);
        x.go(3);
        Checks.due("can of 20 * 11 / 24 three times", x.due(1, 2), 27);
    }
}
