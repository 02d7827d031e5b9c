/** 'Terms', part 4 (THE CLUB), and promises 18 and 19: each sentence that names a bound or a case at its edge. */
public final class ClubEdgesTest {
    private static final int VOID = WheelLand.VOID;

    public static void main(String[] args) {
        owesAtTheEnd();
        owesWithWheels();
        owesNoLess();
        owesAsOfThatWeek();
        payments();
        paidOfAnyLot();
        canIsCut();
        canSinceItCame();
        surely();
        maybe();
        dues();
        Checks.finish("ClubEdgesTest");
    }

    /** House 0 spins 10 hanks a week (CAN 12), house 1 spins 3 (CAN 4), house 2 has no WHEELS. */
    private static WheelLand land() {
        WheelLand x = new WheelLand();
        x.village(10101010, 5, 999);
        x.house(0, 2504);
        x.house(0, 1123);
        x.house(0, 123);
        return x;
    }

    private static void owesAtTheEnd() {
        Checks.sentence("as the last WEEK of a SEASON (its 13th) ends, each HOUSE with WHEELS OWES owe more");
        WheelLand x = land();
        Checks.enforce(x, "owe 5;", 0);
        int[][] want = {{12, 0}, {1, 5}, {12, 5}, {1, 10}, {12, 10}, {1, 15}, {12, 15}, {1, 20}, {12, 20}, {1, 25}};
        for (int[] w : want) {
            x.go(w[0]);
            Checks.due("OWES at " + x.count(0), x.due(0, 0), w[1]);
        }
        WheelLand y = new WheelLand();
        y.village(0, 5, 0);
        Checks.enforce(y, "owe 5;", 0);
        y.go(12);
        y.house(0, 1111);
        Checks.due("OWES as it comes", y.due(0, 0), 0);
        y.go(1);
        Checks.due("OWES of one that came in the 13th WEEK", y.due(0, 0), 5);
    }

    private static void owesWithWheels() {
        Checks.sentence("each HOUSE with WHEELS OWES owe more");
        WheelLand x = new WheelLand();
        x.village(0, 5, 0);
        for (int wheels = 0; wheels <= 5; wheels++) {
            x.house(0, wheels * 1000 + 111);
        }
        Checks.enforce(x, "owe 5+wheels;", 0);
        x.go(13);
        for (int wheels = 0; wheels <= 5; wheels++) {
            Checks.due("OWES with WHEELS " + wheels, x.due(wheels, 0), wheels == 0 ? 0 : 5 + wheels);
        }
    }

    private static void owesNoLess() {
        Checks.sentence("OWES owe more (0 at least)");
        int[][] all = {{0, 0}, {1, 0}, {2, 0}, {3, 1}, {9, 7}};
        for (int[] w : all) {
            WheelLand x = land();
            Checks.enforce(x, "owe " + w[0] + "-2;", 0);
            x.go(13);
            Checks.due("OWES " + w[0] + " less 2", x.due(0, 0), w[1]);
        }
        WheelLand x = land();
        Checks.enforce(x, "owe 4;", 0);
        x.go(13);
        Checks.enforce(x, "owe 0-9;", 13);
        x.go(13);
        Checks.due("OWES no less than it did", x.due(0, 0), 4);
        WheelLand y = land();
        Checks.enforce(y, "owe 9999*9999;", 0);
        for (int k = 0; k < 12; k++) {
            y.go(13);
        }
        Checks.due("OWES of twelve SEASONS", y.due(0, 0), 12000000);
    }

    private static void owesAsOfThatWeek() {
        Checks.sentence("owe is asked for a HOUSE (week, season, heads, wheels, skill, caste, idle)");
        WheelLand x = new WheelLand();
        x.village(1020304, 5, 0);
        x.house(0, 2534);
        Checks.enforce(x, "owe week*1000+season*100+idle;", 0);
        x.go(13);
        Checks.due("OWES of WEEK 12", x.due(0, 0), 12001);
        x.go(13);
        Checks.due("OWES of WEEK 25", x.due(0, 0), 12001 + 25102);
        Checks.enforce(x, "owe heads*1000+wheels*100+skill*10+caste;", 38);
        Checks.enforce(x, "owe 9999;", 39);
        x.go(13);
        Checks.due("OWES of WEEK 38", x.due(0, 0), 37103 + 4253);
    }

    private static void payments() {
        Checks.sentence("VOID if there are none such, or n isn't 1 .. LEFT.");
        int[][] all = {{-1, 10}, {0, 10}, {1, 9}, {9, 1}, {10, 0}, {11, 10}};
        for (int[] w : all) {
            WheelLand x = land();
            x.go(1);
            boolean can = w[0] >= 1 && w[0] <= 10;
            Checks.due("pay(0, 0, " + w[0] + ")", x.pay(0, 0, w[0]), can ? -w[0] : VOID);
            Checks.due("LEFT", x.lot(0, 5), w[1]);
            Checks.due("HANKS", x.lot(0, 4), 10);
            Checks.due("PAID", x.due(0, 1), can ? w[0] : 0);
        }
        WheelLand x = land();
        x.go(1);
        x.pay(0, 0, 8);
        Checks.due("more than LEFT", x.pay(1, 0, 3), VOID);
        Checks.due("LEFT", x.lot(0, 5), 2);
        Checks.due("all that is LEFT", x.pay(1, 0, 2), -2);
        Checks.due("of none LEFT", x.pay(1, 0, 1), VOID);
        Checks.due("of none LEFT", x.pay(1, 0, 0), VOID);
        Checks.due("of no HOUSE", x.pay(3, 1, 1), VOID);
        Checks.due("of no HOUSE", x.pay(-1, 1, 1), VOID);
        Checks.due("of no LOT", x.pay(0, 2, 1), VOID);
        Checks.due("of no LOT", x.pay(0, -1, 1), VOID);
        Checks.due("PAID", x.due(1, 1), 2);
    }

    private static void paidOfAnyLot() {
        Checks.sentence("HANKS of any LOT are PAID for a HOUSE.");
        WheelLand x = land();
        Checks.enforce(x, "owe 5;", 0);
        x.go(13);
        Checks.due("of its own", x.pay(0, 0, 2), 3);
        Checks.due("of another's", x.pay(0, 1, 3), 0);
        Checks.due("more than it OWES", x.pay(0, 2, 1), -1);
        Checks.due("without WHEELS", x.pay(2, 2, 4), -4);
        Checks.due("OWES of another", x.due(1, 0), 5);
        for (int k = 0; k < 6; k++) {
            x.go(26);
        }
        Checks.due("behind the last WEEK", x.pay(2, 2, 5), -9);
        Checks.due("told(155, 3)", x.told(155, 3), 10);
        Checks.due("OWES behind the last WEEK", x.due(0, 0), 12 * 5 - 6);
    }

    private static void canIsCut() {
        Checks.sentence("HOURS of each (WHEELS as they were then) times 10 and SKILL (of then) by 24 (cut)");
        int[][] all = {{2504, 12}, {1123, 4}, {1204, 5}, {5904, 39}, {104, 0}, {1404, 5}, {3604, 20}};
        // IDLE 10: 300 by 24, 110, 120, 950, none, 140, 480
        for (int[] w : all) {
            WheelLand x = new WheelLand();
            x.village(10101010, 5, 0);
            x.house(0, w[0]);
            for (int weeks = 1; weeks <= 5; weeks++) {
                x.go(1);
                Checks.due("CAN behind " + weeks, x.due(0, 2), weeks * w[1]);
            }
        }
        WheelLand x = new WheelLand();
        x.village(1020304, 5, 0);
        x.house(0, 1111);
        x.go(26);
        x.go(26);
        // 11 by 24 is nothing; 22, 33 and 44 are 0, 1 and 1
        Checks.due("CAN of four SEASONS", x.due(0, 2), 26);
    }

    private static void canSinceItCame() {
        Checks.sentence("what it could have spun at most in all WEEKS that ended since it came");
        WheelLand x = land();
        Checks.due("CAN as it came", x.due(0, 2), 0);
        x.go(3);
        x.house(0, 2504);
        Checks.due("CAN of the first", x.due(0, 2), 36);
        Checks.due("CAN as it came", x.due(3, 2), 0);
        x.go(1);
        Checks.due("CAN of the first", x.due(0, 2), 48);
        Checks.due("CAN", x.due(3, 2), 12);
        x.aim(0, 60);
        x.go(1);
        Checks.due("CAN of another AIM", x.due(0, 2), 60);
        for (int k = 0; k < 6; k++) {
            x.go(26);
        }
        Checks.due("CAN behind the last WEEK", x.due(0, 2), 156 * 12);
        Checks.due("CAN behind the last WEEK", x.due(3, 2), 153 * 12);
    }

    private static void surely() {
        Checks.sentence("SURELY not its own is what it PAID more than CAN (0 at least)");
        WheelLand x = land();
        x.go(1);
        // CAN of house 1 is 4
        Checks.due("SURELY of none PAID", x.due(1, 3), 0);
        x.pay(1, 0, 3);
        Checks.due("SURELY of 3", x.due(1, 3), 0);
        x.pay(1, 0, 1);
        Checks.due("SURELY of 4", x.due(1, 3), 0);
        x.pay(1, 0, 1);
        Checks.due("SURELY of 5", x.due(1, 3), 1);
        x.pay(1, 1, 3);
        Checks.due("SURELY of 8", x.due(1, 3), 4);
        x.go(1);
        Checks.due("SURELY, a WEEK on", x.due(1, 3), 0);
        x.pay(2, 2, 1);
        Checks.due("SURELY without WHEELS", x.due(2, 3), 1);
    }

    private static void maybe() {
        Checks.sentence("MAYBE is what it PAID of LOTS that aren't its own.");
        WheelLand x = land();
        x.go(2);
        x.pay(0, 0, 5);
        Checks.due("MAYBE of its own", x.due(0, 4), 0);
        x.pay(0, 2, 5);
        Checks.due("MAYBE of its own", x.due(0, 4), 0);
        x.pay(0, 1, 1);
        Checks.due("MAYBE of another's", x.due(0, 4), 1);
        x.pay(0, 3, 2);
        Checks.due("MAYBE of another's", x.due(0, 4), 3);
        x.pay(1, 3, 1);
        Checks.due("MAYBE of the other one", x.due(1, 4), 0);
        x.pay(2, 2, 4);
        Checks.due("MAYBE without WHEELS", x.due(2, 4), 4);
        x.go(13);
        Checks.due("MAYBE a SEASON on", x.due(0, 4), 3);
    }

    private static void dues() {
        Checks.sentence("Of a HOUSE in THE CLUB: 0 what it OWES yet .. 4 MAYBE. VOID for others, or if there is none such.");
        WheelLand x = land();
        x.go(1);
        x.pay(1, 0, 6);
        int[] want = {-6, 6, 4, 2, 6};
        for (int what = 0; what <= 4; what++) {
            Checks.due("due(1, " + what + ")", x.due(1, what), want[what]);
            for (int house : new int[] {-1, 3, 20, Integer.MIN_VALUE, Integer.MAX_VALUE}) {
                Checks.due("due(" + house + ", " + what + ")", x.due(house, what), VOID);
            }
        }
        for (int what : new int[] {-1, 5, Integer.MIN_VALUE, Integer.MAX_VALUE}) {
            Checks.due("due(1, " + what + ")", x.due(1, what), VOID);
        }
    }
}
