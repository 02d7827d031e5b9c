/** 'Terms', part 6 (weeks TOLD), and promises 40 to 44: each sentence that names a bound or a case at its edge. */
public final class ToldEdgesTest {
    private static final int VOID = WheelLand.VOID;
    private static final int LEAST = Integer.MIN_VALUE;
    private static final int MOST = Integer.MAX_VALUE;

    public static void main(String[] args) {
        weeksThatEnded();
        sixNumbers();
        tillThen();
        checkedFirst();
        checkedSecond();
        aheadOfTheFirst();
        eachBit();
        noneLikewise();
        ofVillages();
        ofHouses();
        counts();
        Checks.finish("ToldEdgesTest");
    }

    /** House 0 spins 10 hanks a week from 100 pounds, house 1 weaves; village 1 has 40 pounds. */
    private static WheelLand land() {
        WheelLand x = new WheelLand();
        x.village(10203040, 5, 100);
        x.village(0, 5, 40);
        x.house(0, 2504);
        x.house(0, 321);
        x.loom(1, 1020, 20);
        return x;
    }

    private static void weeksThatEnded() {
        Checks.sentence("A number of a WEEK that ended; NONE if there is none such.");
        WheelLand x = land();
        for (int week : new int[] {-1, 0, 1, 155, 156, LEAST, MOST}) {
            Checks.due("told(" + week + ", 1) NOW 0", x.told(week, 1), -1);
        }
        x.go(1);
        Checks.due("told(0, 1) NOW 1", x.told(0, 1), 10);
        Checks.due("told(1, 1) NOW 1", x.told(1, 1), -1);
        x.go(1);
        Checks.due("told(1, 1) NOW 2", x.told(1, 1), 10);
        Checks.due("told(2, 1) NOW 2", x.told(2, 1), -1);
        for (int k = 0; k < 6; k++) {
            x.go(26);
        }
        Checks.due("told(155, 4) NOW 156", x.told(155, 4), 0);
        Checks.due("told(156, 4) NOW 156", x.told(156, 4), -1);
        Checks.due("told(-1, 4) NOW 156", x.told(-1, 4), -1);
        Checks.due("told(0, 1) NOW 156", x.told(0, 1), 10);
    }

    private static void sixNumbers() {
        Checks.sentence("A WEEK that ended is TOLD by six numbers");
        WheelLand x = land();
        x.go(1);
        int[] want = {139, 10, 10, 0, 0, 10};
        for (int number = 0; number <= 5; number++) {
            Checks.due("told(0, " + number + ")", x.told(0, number), want[number]);
            Checks.due("check(0, " + number + ", 0)", x.check(0, number, 0), 0);
        }
        for (int number : new int[] {-1, 6, 7, LEAST, MOST}) {
            Checks.due("told(0, " + number + ")", x.told(0, number), -1);
            Checks.due("check(0, " + number + ", 0)", x.check(0, number, 0), -1);
        }
    }

    private static void tillThen() {
        Checks.sentence("0 COTTON of all VILLAGES as it ended, 1 HANKS spun, 2 HANKS LEFT of all LOTS, 3 HANKS PAID in all till then, 4 HANKS woven in all till then, 5 HANKS spun in all till then.");
        WheelLand x = land();
        x.go(1);
        x.pay(1, 0, 3);
        x.weave(1, 0, 4);
        x.cotton(1, 7);
        x.go(1);
        x.village(0, 5, 1000);
        x.pay(0, 1, 1);
        x.go(1);
        int[][] want = {{139, 10, 10, 0, 0, 10}, {145, 10, 13, 3, 4, 20}, {1144, 10, 22, 4, 4, 30}};
        x.pay(0, 0, 1);
        x.weave(1, 0, 2);
        x.cotton(0, 9);
        for (int week = 0; week < 3; week++) {
            for (int number = 0; number <= 5; number++) {
                Checks.due("told(" + week + ", " + number + ")", x.told(week, number), want[week][number]);
            }
        }
    }

    private static void checkedFirst() {
        Checks.sentence("0, if 2, 3 and 4, together, are 5; 1 if the first isn't so");
        WheelLand x = land();
        x.go(1);
        x.pay(1, 0, 3);
        x.weave(1, 0, 4);
        x.go(1);
        for (int week = 0; week < 2; week++) {
            for (int number = 2; number <= 5; number++) {
                Checks.due("check(" + week + ", " + number + ", 0)", x.check(week, number, 0), 0);
                Checks.due("check(" + week + ", " + number + ", 1)", x.check(week, number, 1), 1);
            }
        }
        Checks.due("told stays", x.told(1, 2), 13);
        Checks.due("check again", x.check(1, 2, 0), 0);
    }

    private static void checkedSecond() {
        Checks.sentence("and 5 is that of the WEEK ahead and 1; 2 if the second isn't.");
        WheelLand x = land();
        x.go(3);
        for (int week = 0; week < 3; week++) {
            Checks.due("check(" + week + ", 1, 0)", x.check(week, 1, 0), 0);
            Checks.due("check(" + week + ", 1, 1)", x.check(week, 1, 1), 2);
            Checks.due("check(" + week + ", 0, 1)", x.check(week, 0, 1), 0);
            // 5 altered: the first isn't so, and that is told ahead of the second
            Checks.due("check(" + week + ", 5, 1)", x.check(week, 5, 1), 1);
        }
    }

    private static void aheadOfTheFirst() {
        Checks.sentence("that of the WEEK ahead (0 ahead of the first one)");
        WheelLand x = land();
        x.go(1);
        Checks.due("check(0, 1, 0)", x.check(0, 1, 0), 0);
        Checks.due("check(0, 1, 10)", x.check(0, 1, 10), 2);
        WheelLand y = new WheelLand();
        y.go(1);
        Checks.due("check(0, 1, 0) of an empty land", y.check(0, 1, 0), 0);
        Checks.due("check(0, 1, 1) of an empty land", y.check(0, 1, 1), 2);
        Checks.due("check(0, 2, 1) of an empty land", y.check(0, 2, 1), 1);
    }

    private static void eachBit() {
        Checks.sentence("with one of them altered by a mask (each bit of it turned)");
        WheelLand x = land();
        x.go(1);
        x.pay(1, 0, 3);
        x.weave(1, 0, 4);
        x.go(1);
        int[] want = {0, 2, 1, 1, 1, 1};
        for (int bit = 0; bit < 32; bit++) {
            for (int number = 0; number <= 5; number++) {
                Checks.due("check(1, " + number + ", bit " + bit + ")", x.check(1, number, 1 << bit), want[number]);
            }
        }
        for (int mask : new int[] {-1, LEAST, MOST, 3, 0x55555555}) {
            for (int number = 0; number <= 5; number++) {
                Checks.due("check(1, " + number + ", " + mask + ")", x.check(1, number, mask), want[number]);
            }
        }
    }

    private static void noneLikewise() {
        Checks.sentence("CHECKED: 0 .. 2; NONE likewise.");
        WheelLand x = land();
        Checks.due("check(0, 0, 0) NOW 0", x.check(0, 0, 0), -1);
        x.go(1);
        Checks.due("check(0, 0, 0) NOW 1", x.check(0, 0, 0), 0);
        for (int week : new int[] {-1, 1, 155, 156, LEAST, MOST}) {
            Checks.due("check(" + week + ", 0, 0)", x.check(week, 0, 0), -1);
        }
        for (int k = 0; k < 6; k++) {
            x.go(26);
        }
        Checks.due("check(155, 2, 1)", x.check(155, 2, 1), 1);
        Checks.due("check(156, 2, 1)", x.check(156, 2, 1), -1);
    }

    private static void ofVillages() {
        Checks.sentence("Of a VILLAGE: 0 COTTON .. 10 YARDS of MILL cloth that it sold in this SEASON. NONE for others, or if there is none such.");
        WheelLand x = land();
        x.go(1);
        Checks.enforce(x, "stamp hanks>2;", 1);
        x.weave(1, 0, 2);
        x.weave(1, 0, 4);
        x.bring(0, 0);
        x.bring(1, 0);
        x.mill(0, 9);
        x.talk(0, 20);
        x.sold(0, 8);
        x.coins(1, 99);
        x.coins(0, 99);
        // HEADS 1 buy a STAMPED yard in WEEK 3, HEADS 4 another in WEEK 4
        x.go(4);
        x.price(0, 5030);
        x.go(4);
        // in WEEKS 7 and 8 MILL cloth at 30, as HAND at 50 is above that and WORD of 14
        int[] want = {91, 0, 1, 7, 50, 30, 12, 100, 8, 2, 2};
        for (int what = 0; what <= 10; what++) {
            Checks.due("is(0, " + what + ")", x.is(0, what), want[what]);
        }
        for (int what : new int[] {-1, 11, 12, LEAST, MOST}) {
            Checks.due("is(0, " + what + ")", x.is(0, what), -1);
        }
        for (int village : new int[] {-1, 2, 8, LEAST, MOST}) {
            for (int what = 0; what <= 10; what++) {
                Checks.due("is(" + village + ", " + what + ")", x.is(village, what), -1);
            }
        }
    }

    private static void ofHouses() {
        Checks.sentence("Of a HOUSE: 0 its VILLAGE .. 10 HANKS that its LOOM has woven in this WEEK (NONE without). VOID for others, or if there is none such.");
        WheelLand x = land();
        x.go(1);
        x.weave(1, 0, 4);
        x.mill(0, 1);
        x.coins(0, 15);
        x.aim(0, 11);
        int[] want = {0, 2, 5, 0, 4, 14, 11, 1, 0, 0, -1};
        int[] weaver = {0, 0, 3, 2, 1, 1, 10, 0, 0, 0, 4};
        for (int what = 0; what <= 10; what++) {
            Checks.due("has(0, " + what + ")", x.has(0, what), want[what]);
            Checks.due("has(1, " + what + ")", x.has(1, what), weaver[what]);
        }
        for (int what : new int[] {-1, 11, 12, LEAST, MOST}) {
            Checks.due("has(0, " + what + ")", x.has(0, what), VOID);
        }
        for (int house : new int[] {-1, 2, 20, LEAST, MOST}) {
            for (int what = 0; what <= 10; what++) {
                Checks.due("has(" + house + ", " + what + ")", x.has(house, what), VOID);
            }
        }
        x.bring(0, 0);
        x.coins(1, 19);
        x.price(0, 1011);
        x.go(4);
        // WEEK 3: HEADS 1 buy HAND for 10; WEEK 4: HEADS 4 buy HAND too
        Checks.due("has(1, 8)", x.has(1, 8), 1);
        Checks.due("has(1, 10)", x.has(1, 10), 0);
        Checks.due("has(0, 8)", x.has(0, 8), 1);
        Checks.due("has(0, 5)", x.has(0, 5), 4);
        x.coins(0, 7);
        x.go(4);
        Checks.due("has(0, 9)", x.has(0, 9), 1);
        Checks.due("has(0, 5)", x.has(0, 5), 0);
        Checks.due("has(0, 7)", x.has(0, 7), 1);
    }

    private static void counts() {
        Checks.sentence("0 NOW, 1 VILLAGES .. 8 GIFTS, 9 what the CROWN got. NONE for others.");
        WheelLand x = land();
        x.mill(0, 5);
        x.coins(0, 99);
        Checks.enforce(x, "duty 3;", 0);
        x.go(5);
        x.weave(1, 0, 4);
        Checks.write(x, "owe");
        x.ask(0);
        x.ask(1);
        x.gift(5, 0, 0);
        int[] want = {5, 2, 2, 5, 1, 1, 3, 2, 1, 6};
        for (int what = 0; what <= 9; what++) {
            Checks.due("count(" + what + ")", x.count(what), want[what]);
        }
        for (int what : new int[] {-1, 10, 11, LEAST, MOST}) {
            Checks.due("count(" + what + ")", x.count(what), -1);
        }
    }
}
