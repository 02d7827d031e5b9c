/** 'Terms', part 4 (HANDS), and promises 23 to 25: each sentence that names a bound or a case at its edge. */
public final class HandsEdgesTest {
    public static void main(String[] args) {
        sixLots();
        eachOnce();
        cleared();
        evenNumbers();
        fewerThanTwo();
        oneToSixLooms();
        noneSuch();
        withoutABar();
        barsThatDoNotCount();
        mayOfAll();
        mostHanks();
        fewestDays();
        fewestWeeks();
        begunWeeks();
        firstWay();
        noneLast();
        Checks.finish("HandsEdgesTest");
    }

    /**
     * House 0 spins 31 hanks of COUNT 10 a week; looms in village 0: houses 1 and 2 of 10 hanks, 4 of another
     * COUNT, 5 without; in village 1, 4 days away: house 3 of 40 hanks; lots 0 .. 6.
     */
    private static WheelLand land() {
        WheelLand x = new WheelLand();
        x.village(10101010, 9, 9999);
        x.village(0, 9, 0);
        x.road(0, 1, 4);
        x.house(0, 5911);
        x.house(0, 111);
        x.house(0, 111);
        x.house(1, 111);
        x.house(0, 111);
        x.house(0, 111);
        x.loom(1, 460, 10);
        x.loom(2, 460, 10);
        x.loom(3, 460, 40);
        x.loom(4, 1160, 40);
        x.go(7);
        return x;
    }

    private static void due(WheelLand x, int looms, int... want) {
        for (int k = 0; k < want.length; k++) {
            int what = k < 3 ? k : 7 + k;
            Checks.due("hands(" + looms + ", " + what + ")", x.hands(looms, what), want[k]);
        }
    }

    private static void sixLots() {
        Checks.sentence("LOTS (told in a row, at most 6, each once");
        WheelLand x = land();
        for (int k = 0; k < 6; k++) {
            Checks.due("ask", x.ask(k), k + 1);
            Checks.due("LOTS told", x.count(7), k + 1);
        }
        Checks.due("the seventh", x.ask(6), -1);
        Checks.due("LOTS told", x.count(7), 6);
        due(x, 2, 180, 0, 18, 1, 1, 1, 1, 1, 1, -1);
        due(x, 8, 180, 24, 5, 3, 3, 3, 3, 3, 3, -1);
    }

    private static void eachOnce() {
        Checks.sentence("NONE if there is none such, it is told, or 6 are.");
        WheelLand x = land();
        for (int lot : new int[] {-1, 7, 300, Integer.MIN_VALUE, Integer.MAX_VALUE}) {
            Checks.due("ask(" + lot + ")", x.ask(lot), -1);
        }
        Checks.due("LOTS told", x.count(7), 0);
        Checks.due("ask(6)", x.ask(6), 1);
        Checks.due("ask(6) again", x.ask(6), -1);
        Checks.due("ask(0)", x.ask(0), 2);
        Checks.due("ask(6) again", x.ask(6), -1);
        Checks.due("ask(0) again", x.ask(0), -1);
        Checks.due("LOTS told", x.count(7), 2);
        due(x, 2, 60, 0, 6, 1, 1, -1);
    }

    private static void cleared() {
        Checks.sentence("No LOTS are told any more: how many were.");
        WheelLand x = land();
        Checks.due("clear of none", x.clear(), 0);
        x.ask(0);
        x.ask(1);
        Checks.due("clear", x.clear(), 2);
        Checks.due("LOTS told", x.count(7), 0);
        Checks.due("without LOTS told", x.hands(2, 0), -1);
        Checks.due("ask of one that was told", x.ask(1), 1);
        for (int lot = 2; lot < 7; lot++) {
            x.ask(lot);
        }
        Checks.due("clear of six", x.clear(), 6);
        Checks.due("clear again", x.clear(), 0);
    }

    private static void evenNumbers() {
        Checks.sentence("all that is LEFT of each, by even numbers");
        for (int left = 0; left <= 31; left++) {
            WheelLand x = land();
            if (left < 31) {
                x.pay(0, 0, 31 - left);
            }
            x.ask(0);
            int even = left / 2 * 2;
            due(x, 2, even, 0, (even + 9) / 10, even == 0 ? -1 : 1);
        }
    }

    private static void fewerThanTwo() {
        Checks.sentence("or to none (one of which fewer than 2 are LEFT to none)");
        WheelLand x = land();
        x.pay(0, 0, 31);
        x.pay(0, 1, 30);
        x.pay(0, 2, 29);
        x.pay(0, 3, 28);
        for (int lot = 0; lot < 5; lot++) {
            x.ask(lot);
        }
        due(x, 2, 34, 0, 4, -1, -1, 1, 1, 1);
        due(x, 8, 34, 12, 1, -1, -1, 3, 3, 3);
    }

    private static void oneToSixLooms() {
        Checks.sentence("by LOOMS (bits of HOUSES; 1 to 6)");
        WheelLand x = land();
        x.house(1, 111);
        x.loom(6, 460, 40);
        x.ask(0);
        Checks.due("no LOOM", x.hands(0, 0), -1);
        for (int house = 0; house <= 6; house++) {
            boolean weaves = house == 1 || house == 2 || house == 3 || house == 6;
            due(x, 1 << house, weaves ? 30 : 0);
        }
        Checks.due("six", x.hands(63, 0), 30);
        Checks.due("six, the last ones", x.hands(126, 0), 30);
        Checks.due("seven", x.hands(127, 0), -1);
        Checks.due("six with the seventh in place of one", x.hands(127 - 8, 0), 30);
        due(x, 64 + 49, 30, 4, 1, 6);
    }

    private static void noneSuch() {
        Checks.sentence("NONE for others, without LOTS told, or if there are none such HOUSES.");
        WheelLand x = land();
        Checks.due("without LOTS told", x.hands(2, 0), -1);
        Checks.due("without LOTS told", x.hands(2, 10), -1);
        x.ask(0);
        x.ask(1);
        for (int looms : new int[] {64, 66, 128, 1 << 19, 1 << 20, 1 << 30, 1 << 31, -1, (1 << 31) + 2, 1 << 6}) {
            Checks.due("hands(" + looms + ", 0)", x.hands(looms, 0), -1);
        }
        for (int what = -2; what <= 20; what++) {
            int want = what == 0 ? 60 : what == 1 ? 0 : what == 2 ? 6 : what == 10 || what == 11 ? 1 : -1;
            Checks.due("hands(2, " + what + ")", x.hands(2, what), want);
        }
        Checks.due("hands(2, least)", x.hands(2, Integer.MIN_VALUE), -1);
        Checks.due("hands(2, most)", x.hands(2, Integer.MAX_VALUE), -1);
        WheelLand y = land();
        for (int k = 6; k < 20; k++) {
            y.house(0, 111);
        }
        y.loom(19, 460, 5);
        y.ask(0);
        due(y, 1 << 19, 30, 0, 6, 19);
        Checks.due("beyond the last HOUSE", y.hands(1 << 20, 0), -1);
    }

    private static void withoutABar() {
        Checks.sentence("each to one without a BAR (1 to 5)");
        WheelLand x = land();
        x.ask(0);
        due(x, 32, 0, 0, 0, -1);
        due(x, 16, 0, 0, 0, -1);
        due(x, 48 + 2, 30, 0, 3, 1);
        WheelLand y = new WheelLand();
        y.village(10101010, 1, 9999);
        y.house(0, 5911);
        y.loom(0, 460, 40);
        y.aim(0, 5);
        y.go(1);
        y.aim(0, 6);
        y.go(1);
        y.ask(0);
        y.ask(1);
        // STRENGTH 37 is not below 5 and 30; 35 is below 6 and 30
        due(y, 1, 38, 0, 1, 0, -1);
        WheelLand z = new WheelLand();
        z.village(10101010, 9, 9999);
        z.village(0, 9, 0);
        z.house(0, 5911);
        z.house(1, 111);
        z.loom(1, 460, 40);
        z.go(1);
        z.ask(0);
        due(z, 2, 0, 0, 0, -1);
        z.road(1, 0, 9);
        due(z, 2, 30, 9, 1, 1);
        Checks.enforce(z, "may 1=2;", 1);
        due(z, 2, 0, 0, 0, -1);
    }

    private static void barsThatDoNotCount() {
        Checks.sentence("without a BAR (1 to 5)");
        WheelLand x = land();
        x.weave(1, 6, 10);
        Checks.due("BAR of the LOOM's WEEK", x.bar(1, 0, 2), 7);
        x.ask(0);
        due(x, 2, 30, 0, 3, 1);
        Checks.due("BAR of all", x.bar(2, 0, 30), 7);
        due(x, 4, 30, 0, 3, 2);
        WheelLand y = new WheelLand();
        y.village(40404040, 9, 9999);
        y.house(0, 5911);
        y.loom(0, 460, 40);
        y.aim(0, 4);
        y.go(1);
        y.ask(0);
        // 158 are more than the 100 that can be woven at once
        due(y, 1, 158, 0, 4, 0);
    }

    private static void mayOfAll() {
        Checks.sentence("all that is LEFT of each, by even numbers");
        WheelLand x = land();
        Checks.enforce(x, "may hanks=30;", 7);
        x.pay(0, 1, 1);
        x.pay(0, 2, 2);
        x.ask(0);
        x.ask(1);
        x.ask(2);
        due(x, 2, 60, 0, 6, 1, 1, -1);
        WheelLand y = land();
        Checks.enforce(y, "may far=4 or hanks<20;", 7);
        y.pay(0, 1, 13);
        y.ask(0);
        y.ask(1);
        due(y, 10, 48, 4, 2, 3, 1);
    }

    private static void mostHanks() {
        Checks.sentence("the most HANKS, of like ones the fewest DAYS");
        WheelLand x = land();
        x.road(0, 1, 9);
        x.ask(0);
        x.ask(1);
        due(x, 8, 60, 18, 2, 3, 3);
        Checks.enforce(x, "may hanks<30 or far>0;", 7);
        x.pay(0, 1, 10);
        due(x, 10, 50, 9, 2, 3, 1);
        due(x, 2, 20, 0, 2, -1, 1);
    }

    private static void fewestDays() {
        Checks.sentence("of like ones the fewest DAYS (FAR of each, together), of like ones the fewest WEEKS");
        WheelLand x = land();
        x.ask(0);
        x.ask(1);
        x.ask(2);
        // house 3 would need fewer WEEKS, but 4 DAYS
        due(x, 10, 90, 0, 9, 1, 1, 1);
        due(x, 8, 90, 12, 3, 3, 3, 3);
        x.village(0, 9, 0);
        x.road(1, 2, 1);
        x.house(2, 111);
        x.loom(6, 460, 40);
        due(x, 64, 90, 15, 3, 6, 6, 6);
        due(x, 72, 90, 12, 3, 3, 3, 3);
        x.road(0, 2, 2);
        due(x, 72, 90, 6, 3, 6, 6, 6);
        due(x, 8, 90, 9, 3, 3, 3, 3);
    }

    private static void fewestWeeks() {
        Checks.sentence("the fewest WEEKS (the greatest of all LOOMS: what it gets by what it can");
        WheelLand x = land();
        x.house(0, 111);
        x.loom(6, 460, 15);
        x.ask(0);
        // 30 by 10 are 3 WEEKS, by 15 they are 2
        due(x, 66, 30, 0, 2, 6);
        x.ask(1);
        due(x, 66, 60, 0, 3, 1, 6);
        x.ask(2);
        due(x, 66, 90, 0, 4, 1, 6, 6);
        x.ask(3);
        // two by 10 are 6, three by 15 are 6 too
        due(x, 66, 120, 0, 6, 1, 1, 6, 6);
        x.ask(4);
        due(x, 66, 150, 0, 6, 1, 1, 6, 6, 6);
        // with another by 10 one of them gets two yet
        due(x, 70, 150, 0, 6, 1, 1, 2, 2, 6, -1);
    }

    private static void begunWeeks() {
        Checks.sentence("what it gets by what it can, a begun WEEK as a whole one");
        int[][] all = {{2, 1}, {8, 1}, {10, 1}, {11, 1}, {12, 2}, {20, 2}, {21, 2}, {22, 3}, {30, 3}, {31, 3}, {32, 4}};
        for (int[] w : all) {
            WheelLand x = land();
            x.aim(0, 4);
            x.go(1);
            // 50 * 19 / 24 = 39
            x.pay(0, 7, 39 - w[0]);
            x.ask(7);
            due(x, 2, w[0] / 2 * 2, 0, w[1], 1);
        }
        WheelLand x = land();
        x.house(0, 111);
        x.loom(6, 460, 1);
        x.ask(0);
        due(x, 64, 30, 0, 30, 6);
    }

    private static void firstWay() {
        Checks.sentence("of like ones the first way (by LOTS; LOOMS by numbers, none last)");
        WheelLand x = land();
        x.ask(3);
        due(x, 6, 30, 0, 3, 1);
        x.ask(1);
        due(x, 6, 60, 0, 3, 1, 2);
        x.ask(5);
        due(x, 6, 90, 0, 6, 1, 1, 2);
        x.ask(0);
        due(x, 6, 120, 0, 6, 1, 1, 2, 2);
        x.pay(0, 1, 30);
        due(x, 6, 90, 0, 6, 1, -1, 1, 2);
    }

    private static void noneLast() {
        Checks.sentence("LOOMS by numbers, none last");
        WheelLand x = land();
        x.pay(0, 0, 30);
        x.ask(0);
        x.ask(1);
        due(x, 6, 30, 0, 3, -1, 1);
        x.clear();
        x.ask(0);
        due(x, 6, 0, 0, 0, -1);
        due(x, 48, 0, 0, 0, -1, -1);
    }
}
