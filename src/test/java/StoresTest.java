/** Promises 26 to 34: stores, prices, word, what is heard and liked, bought and sold. */
public final class StoresTest {
    public static void main(String[] args) {
        bringing();
        milling();
        pricing();
        talking();
        hearing();
        liking();
        buying();
        duties();
        seasons();
        sayings();
        Checks.finish("StoresTest");
    }

    /** House 0 spins count 4, house 1 weaves 40 a week; villages 0 and 1 with a road, 2 without. */
    private static WheelLand land() {
        WheelLand x = new WheelLand();
        x.village(40404040, 9, 9999);
        x.village(0, 9, 0);
        x.village(0, 9, 0);
        x.road(0, 1, 8);
        x.house(0, 5901);
        x.house(0, 101);
        x.aim(0, 4);
        x.loom(1, 460, 40);
        x.go(1);
        return x;
    }

    private static void bringing() {
        WheelLand x = land();
        Checks.enforce(x, "stamp hanks>4;", 1);
        x.weave(1, 0, 12);
        x.weave(1, 0, 4);
        x.weave(1, 0, 10);
        Checks.due("bring of none", x.bring(3, 0), -1);
        Checks.due("bring(-1, 0)", x.bring(-1, 0), -1);
        Checks.due("bring to none", x.bring(0, 3), -1);
        Checks.due("bring(0, -1)", x.bring(0, -1), -1);
        Checks.due("bring without a way", x.bring(0, 2), -1);
        Checks.due("cloth(0, 7)", x.cloth(0, 7), -1);
        Checks.due("bring(0, 1)", x.bring(0, 1), 6);
        Checks.due("cloth(0, 7)", x.cloth(0, 7), 1);
        Checks.due("bring again", x.bring(0, 1), -1);
        Checks.due("bring again elsewhere", x.bring(0, 0), -1);
        x.mill(1, 50);
        Checks.due("bring(1, 1)", x.bring(1, 1), 8);
        Checks.due("bring(2, 1)", x.bring(2, 1), 13);
        Checks.due("is(1, 1)", x.is(1, 1), 11);
        Checks.due("is(1, 2)", x.is(1, 2), 2);
        Checks.due("is(1, 3)", x.is(1, 3), 50);
        Checks.due("is(0, 1)", x.is(0, 1), 0);
    }

    private static void milling() {
        WheelLand x = land();
        Checks.due("mill(0, 0)", x.mill(0, 0), -1);
        Checks.due("mill(0, 1000)", x.mill(0, 1000), -1);
        Checks.due("mill(3, 5)", x.mill(3, 5), -1);
        Checks.due("mill(-1, 5)", x.mill(-1, 5), -1);
        for (int k = 1; k <= 10; k++) {
            Checks.due("mill(0, 999)", x.mill(0, 999), 999 * k);
        }
        Checks.due("mill beyond 9999", x.mill(0, 10), -1);
        Checks.due("mill(0, 9)", x.mill(0, 9), 9999);
        Checks.due("is(0, 3)", x.is(0, 3), 9999);
        Checks.due("is(0, 2)", x.is(0, 2), 0);
    }

    private static void pricing() {
        WheelLand x = land();
        Checks.due("is(0, 4)", x.is(0, 4), 20);
        Checks.due("is(0, 5)", x.is(0, 5), 10);
        int[] wrong = {0, 99, 100, 9900, 10001, 10099, -101, Integer.MIN_VALUE, Integer.MAX_VALUE};
        for (int prices : wrong) {
            Checks.due("price(0, " + prices + ")", x.price(0, prices), false);
        }
        Checks.due("price(3, 101)", x.price(3, 101), false);
        Checks.due("price(-1, 101)", x.price(-1, 101), false);
        Checks.due("is(0, 4)", x.is(0, 4), 20);
        Checks.due("price(0, 101)", x.price(0, 101), true);
        Checks.due("is(0, 4)", x.is(0, 4), 1);
        Checks.due("is(0, 5)", x.is(0, 5), 1);
        Checks.due("price(0, 9998)", x.price(0, 9998), true);
        Checks.due("is(0, 4)", x.is(0, 4), 99);
        Checks.due("is(0, 5)", x.is(0, 5), 98);
        Checks.due("is(1, 4)", x.is(1, 4), 20);
    }

    private static void talking() {
        WheelLand x = new WheelLand();
        for (int k = 0; k < 4; k++) {
            x.village(0, 1, 0);
        }
        x.road(0, 1, 9);
        x.road(1, 2, 1);
        Checks.due("talk(0, 21)", x.talk(0, 21), -1);
        Checks.due("talk(0, -1)", x.talk(0, -1), -1);
        Checks.due("talk(4, 1)", x.talk(4, 1), -1);
        Checks.due("talk(-1, 1)", x.talk(-1, 1), -1);
        Checks.due("is(0, 6)", x.is(0, 6), 0);
        Checks.due("talk(0, 20)", x.talk(0, 20), 20);
        Checks.due("talk(3, 1)", x.talk(3, 1), 1);
        int[][] want = {{19, 18, 0, 0}, {18, 17, 16, 0}, {17, 16, 15, 0}};
        for (int week = 0; week < 3; week++) {
            x.go(1);
            for (int k = 0; k < 4; k++) {
                Checks.due("word of " + k + " behind week " + week, x.is(k, 6), want[week][k]);
            }
        }
        Checks.due("talk down", x.talk(0, 0), 0);
        x.go(1);
        Checks.due("word comes back", x.is(0, 6), 14);
        x.talk(0, 1);
        x.talk(1, 0);
        x.talk(2, 0);
        x.go(1);
        Checks.due("word fades", x.is(0, 6), 0);
        Checks.due("no word below 0", x.is(1, 6), 0);
    }

    private static void hearing() {
        WheelLand x = new WheelLand();
        x.village(0, 1, 0);
        x.village(0, 1, 0);
        x.village(0, 1, 0);
        x.road(0, 1, 7);
        x.price(1, 5050);
        Checks.due("heard in the first week", x.heard(0, 1), 10);
        Checks.due("heard of itself in the first week", x.heard(1, 1), 10);
        x.go(1);
        Checks.due("heard of itself", x.heard(1, 1), 50);
        Checks.due("heard a week late", x.heard(0, 1), 10);
        x.price(1, 5060);
        Checks.due("heard of itself, as the week began", x.heard(1, 1), 50);
        x.go(1);
        Checks.due("heard a week late", x.heard(0, 1), 50);
        Checks.due("heard of itself", x.heard(1, 1), 60);
        x.road(0, 1, 8);
        Checks.due("heard two weeks late", x.heard(0, 1), 10);
        x.go(1);
        Checks.due("heard two weeks late", x.heard(0, 1), 50);
        Checks.due("heard the other way", x.heard(1, 0), 10);
        x.price(0, 7070);
        Checks.due("heard of village 0 itself", x.heard(0, 0), 10);
        Checks.due("heard without a way", x.heard(0, 2), -1);
        Checks.due("heard(0, 3)", x.heard(0, 3), -1);
        Checks.due("heard(3, 0)", x.heard(3, 0), -1);
        Checks.due("heard(-1, 0)", x.heard(-1, 0), -1);
        x.village(0, 1, 0);
        x.price(3, 3030);
        x.road(1, 3, 6);
        Checks.due("heard ahead of its coming", x.heard(1, 3), 10);
        Checks.due("heard of itself, as it came", x.heard(3, 3), 10);
        x.go(1);
        Checks.due("heard of village 0 itself", x.heard(0, 0), 70);
        Checks.due("heard of its coming week", x.heard(1, 3), 10);
        x.go(1);
        Checks.due("heard", x.heard(1, 3), 30);
        Checks.due("heard by 14 days", x.heard(0, 3), 10);
        x.go(1);
        Checks.due("heard by 14 days", x.heard(0, 3), 30);
        x.go(7);
        Checks.due("heard as the season's price began", x.heard(3, 3), 31);
        Checks.due("heard a week behind the season", x.heard(1, 3), 30);
        x.go(26);
        x.go(26);
        x.go(26);
        x.go(26);
        x.go(26);
        Checks.due("heard in week 143", x.heard(3, 3), 41);
        x.go(12);
        Checks.due("heard in week 155", x.heard(3, 3), 41);
        x.go(1);
        Checks.due("heard at 156", x.heard(3, 3), -1);
    }

    private static void liking() {
        WheelLand x = land();
        x.weave(1, 0, 2);
        Checks.due("likes(2)", x.likes(2), -1);
        Checks.due("likes(-1)", x.likes(-1), -1);
        x.coins(1, 98);
        Checks.due("has(1, 5)", x.has(1, 5), 99);
        Checks.due("nothing there", x.likes(1), -1);
        x.mill(0, 1);
        Checks.due("MILL alone", x.likes(1), 1);
        x.bring(0, 0);
        Checks.due("HAND 20 above 10", x.likes(1), 1);
        x.price(0, 1111);
        Checks.due("HAND not above", x.likes(1), 0);
        x.price(0, 1110);
        Checks.due("HAND one above", x.likes(1), 1);
        x.talk(0, 1);
        Checks.due("HAND not above with WORD", x.likes(1), 0);
        x.price(0, 1310);
        Checks.due("HAND above with WORD", x.likes(1), 1);
        Checks.enforce(x, "duty price-8;", 1);
        Checks.due("HAND not above with duty", x.likes(1), 0);
        Checks.enforce(x, "duty 0-5;", 1);
        Checks.due("duty below 0", x.likes(1), 1);
        Checks.enforce(x, "duty 2; wage 7;", 1);
        x.coins(1, -99 + 13);
        Checks.due("purse of the HAND price", x.likes(1), 0);
        x.coins(1, -1);
        Checks.due("purse below the HAND price", x.likes(1), 1);
        x.coins(1, -1);
        Checks.due("purse below MILL and duty", x.likes(1), -1);
        x.price(0, 1210);
        Checks.due("purse of 11", x.likes(1), -1);
        x.price(0, 1110);
        Checks.due("purse of 11 for HAND", x.likes(1), 0);
        x.price(0, 9901);
        Checks.due("the other one else", x.likes(1), 1);
    }

    private static void buying() {
        WheelLand x = land();
        Checks.enforce(x, "stamp hanks=2; wage 0;", 1);
        x.weave(1, 0, 2);
        x.weave(1, 0, 4);
        x.bring(0, 0);
        x.bring(1, 0);
        x.mill(0, 1);
        x.price(0, 1010);
        x.house(0, 107);
        x.house(0, 105);
        x.house(0, 103);
        x.coins(2, 30);
        x.coins(3, 9);
        x.coins(4, 30);
        // week 1: HEADS 7 and 3 need cloth; the first gets the stamped yard
        x.go(1);
        Checks.due("stamped yards", x.is(0, 1), 0);
        Checks.due("others", x.is(0, 2), 1);
        Checks.due("takings", x.is(0, 7), 20);
        Checks.due("stamped sold", x.is(0, 9), 1);
        Checks.due("has(2, 8)", x.has(2, 8), 1);
        Checks.due("has(2, 5)", x.has(2, 5), 20);
        Checks.due("has(4, 8)", x.has(4, 8), 1);
        Checks.due("has(3, 7)", x.has(3, 7), 0);
        Checks.due("has(0, 7)", x.has(0, 7), 0);
        // week 3: HEADS 1 (twice), 5; all too poor
        x.go(2);
        Checks.due("has(3, 7) too poor", x.has(3, 7), 1);
        Checks.due("has(1, 7) too poor", x.has(1, 7), 1);
        Checks.due("others", x.is(0, 2), 1);
        // week 5: HEADS 7 gets HAND, 3 the MILL yard
        x.go(2);
        Checks.due("has(2, 8)", x.has(2, 8), 2);
        Checks.due("has(4, 8)", x.has(4, 8), 1);
        Checks.due("has(4, 9)", x.has(4, 9), 1);
        Checks.due("is(0, 2)", x.is(0, 2), 0);
        Checks.due("is(0, 3)", x.is(0, 3), 0);
        Checks.due("is(0, 10)", x.is(0, 10), 1);
        Checks.due("is(0, 7)", x.is(0, 7), 40);
        Checks.due("is(0, 9)", x.is(0, 9), 1);
        Checks.due("likes nothing", x.likes(4), -1);
        // week 9: nothing is there
        x.go(4);
        Checks.due("has(2, 7)", x.has(2, 7), 1);
        Checks.due("has(2, 5)", x.has(2, 5), 10);
        Checks.due("has(4, 7)", x.has(4, 7), 1);
    }

    private static void duties() {
        WheelLand x = new WheelLand();
        x.village(0, 1, 0);
        x.house(0, 104);
        x.coins(0, 1000);
        x.mill(0, 9);
        Checks.enforce(x, "duty week+season*100+price/5+heads+wheels+skill+caste+other+count+strength+hanks+idle+far;", 0);
        x.go(5);
        // weeks 0 and 4: 2 and 6 beside 10
        Checks.due("crown", x.count(9), 8);
        Checks.due("takings", x.is(0, 7), 20);
        Checks.due("purse", x.has(0, 5), 1000 - 28);
        x.go(12);
        // weeks 8, 12: 10 and 14; week 16: 16, 100 and 2, the price 11
        Checks.due("crown", x.count(9), 8 + 10 + 14 + 118);
        Checks.due("takings", x.is(0, 7), 51);
        Checks.due("purse", x.has(0, 5), 1000 - 51 - 150);
        WheelLand y = new WheelLand();
        y.village(0, 1, 0);
        y.house(0, 104);
        y.coins(0, 1000);
        y.mill(0, 9);
        Checks.enforce(y, "duty 0-5;", 0);
        y.go(1);
        Checks.due("crown of duty below 0", y.count(9), 0);
        Checks.due("purse by duty below 0", y.has(0, 5), 990);
    }

    private static void seasons() {
        WheelLand x = new WheelLand();
        x.village(0, 1, 0);
        x.village(0, 1, 0);
        x.village(0, 1, 0);
        x.house(0, 104);
        x.coins(0, 1000);
        x.mill(0, 5);
        x.price(1, 1001);
        x.price(2, 1099);
        x.go(12);
        Checks.due("price ahead of the season's end", x.is(0, 5), 10);
        Checks.due("is(0, 10)", x.is(0, 10), 3);
        x.go(1);
        // week 12 too: four yards, more than none
        Checks.due("price up", x.is(0, 5), 11);
        Checks.due("is(0, 10) anew", x.is(0, 10), 0);
        Checks.due("price up from 1", x.is(1, 5), 2);
        Checks.due("price stays at 99", x.is(2, 5), 99);
        Checks.due("HAND price stays", x.is(0, 4), 20);
        x.go(13);
        // one yard: fewer than four
        Checks.due("price down", x.is(0, 5), 10);
        x.go(13);
        Checks.due("price down again", x.is(0, 5), 9);
        x.go(13);
        Checks.due("none is not fewer than none", x.is(0, 5), 10);
        leastPrice();
    }

    private static void leastPrice() {
        WheelLand x = new WheelLand();
        x.village(0, 1, 0);
        x.house(0, 104);
        x.coins(0, 1000);
        x.mill(0, 4);
        x.go(13);
        x.price(0, 2001);
        x.go(13);
        Checks.due("price stays at 1", x.is(0, 5), 1);
    }

    private static void sayings() {
        WheelLand x = land();
        Checks.due("look at nothing", x.look(), -1);
        Checks.due("sold(0, 0)", x.sold(0, 0), -1);
        Checks.due("sold(0, 1000)", x.sold(0, 1000), -1);
        Checks.due("sold(3, 1)", x.sold(3, 1), -1);
        Checks.due("sold(-1, 1)", x.sold(-1, 1), -1);
        Checks.due("wrong(3, true)", x.wrong(3, true), -1);
        Checks.due("wrong(-1, false)", x.wrong(-1, false), -1);
        Checks.due("sold(0, 5)", x.sold(0, 5), 5);
        Checks.due("surely", x.wrong(0, false), 5);
        Checks.due("at most", x.wrong(0, true), 5);
        Checks.due("look where nothing differs", x.look(), -1);
        x.weave(1, 0, 6);
        x.bring(0, 0);
        Checks.due("surely", x.wrong(0, false), 2);
        Checks.due("at most", x.wrong(0, true), 5);
        Checks.due("look", x.look(), 0);
        x.weave(1, 0, 2);
        x.bring(1, 0);
        Checks.due("surely, of two cloths", x.wrong(0, false), 1);
        x = land();
        x.sold(0, 5);
        x.weave(1, 0, 6);
        x.bring(0, 0);
        x.weave(1, 0, 8);
        x.bring(1, 1);
        x.sold(1, 3);
        Checks.due("of like ones the least", x.look(), 0);
        Checks.due("surely of 1", x.wrong(1, false), 0);
        x.sold(1, 3);
        Checks.due("surely of 1", x.wrong(1, false), 2);
        Checks.due("at most of 1", x.wrong(1, true), 6);
        Checks.due("look where they differ most", x.look(), 1);
        x.coins(0, 1000);
        x.go(3);
        // house 0 bought a stamped yard in week 3
        Checks.due("is(0, 9)", x.is(0, 9), 1);
        Checks.due("surely, behind a yard sold", x.wrong(0, false), 2);
        Checks.due("at most, behind a yard sold", x.wrong(0, true), 4);
        Checks.due("is(0, 8)", x.is(0, 8), 5);
        for (int k = 0; k < 10; k++) {
            x.sold(2, 999);
        }
        Checks.due("sold beyond 9999", x.sold(2, 10), -1);
        Checks.due("sold(2, 9)", x.sold(2, 9), 9999);
        WheelLand y = land();
        Checks.enforce(y, "stamp 1=2;", 1);
        y.weave(1, 0, 6);
        y.bring(0, 0);
        y.sold(0, 2);
        Checks.due("unstamped yards don't count", y.wrong(0, false), 2);
        y.coins(0, 1000);
        y.go(3);
        Checks.due("unstamped yards sold", y.is(0, 2), 2);
        Checks.due("unstamped yards sold don't count", y.wrong(0, true), 2);
        y.sold(1, 2);
        Checks.due("look where nothing differs", y.look(), -1);
        y.weave(1, 0, 8);
        y.bring(1, 0);
        Checks.due("unstamped yards come together", y.is(0, 2), 6);
        WheelLand z = land();
        z.weave(1, 0, 2);
        z.bring(0, 0);
        z.sold(0, 1);
        Checks.due("look where they differ by one", z.look(), 0);
        WheelLand w = land();
        w.weave(1, 0, 6);
        w.bring(0, 0);
        w.coins(0, 1000);
        w.go(3);
        Checks.due("at most, where less is told than sold", w.wrong(0, true), 0);
        Checks.due("surely, where less is told than sold", w.wrong(0, false), 0);
    }
}
