/** 'Terms', part 5, and promises 26 to 34: each sentence that names a bound or a case at its edge. */
public final class StoresEdgesTest {
    public static void main(String[] args) {
        bringing();
        millYards();
        prices();
        firstPrices();
        words();
        wordSpreads();
        needs();
        likesHand();
        theOtherOne();
        purses();
        dutyNoLess();
        stampedAhead();
        takings();
        bare();
        pricesByThe13th();
        leastPrice();
        greatestPrice();
        seasonAhead();
        heardByWeeks();
        heardAheadOfAll();
        heardAsTheWeekBegan();
        heardNone();
        soldYards();
        falseSurely();
        falseAtMost();
        looks();
        likesAtTheEnd();
        Checks.finish("StoresEdgesTest");
    }

    /** House 0 spins 316 hanks of COUNT 4 a week for the LOOM of house 1; villages 0 and 1 (a road), 2 (none). */
    private static WheelLand land() {
        WheelLand x = new WheelLand();
        x.village(40404040, 9, 9999);
        x.village(0, 9, 0);
        x.village(0, 9, 0);
        x.road(0, 1, 8);
        x.house(0, 5901);
        x.house(0, 101);
        x.aim(0, 4);
        x.loom(1, 460, 40);
        x.go(1);
        return x;
    }

    /** One CLOTH of so many YARDS in a STORE, STAMPED or not. */
    private static int bring(WheelLand x, int yards, int village, boolean stamped) {
        Checks.enforce(x, stamped ? "stamp 1=1; wage 0;" : "stamp 1=2; wage 0;", x.count(0));
        int cloth = x.weave(1, 0, 2 * yards);
        Checks.due("weave", cloth >= 0, true);
        return x.bring(cloth, village);
    }

    private static void bringing() {
        Checks.sentence("NONE if there are none such, it was brought, there is no way from who wove it, or more than 9999 would be.");
        WheelLand x = land();
        Checks.due("YARDS", bring(x, 3, 1, true), 3);
        Checks.due("YARDS, of both", bring(x, 2, 1, false), 5);
        x.mill(1, 9);
        Checks.due("YARDS, not MILL", bring(x, 1, 1, true), 6);
        x.weave(1, 0, 2);
        for (int cloth : new int[] {-1, 4, 200, Integer.MIN_VALUE, Integer.MAX_VALUE}) {
            Checks.due("bring(" + cloth + ", 0)", x.bring(cloth, 0), -1);
        }
        for (int village : new int[] {-1, 3, 8, Integer.MIN_VALUE, Integer.MAX_VALUE}) {
            Checks.due("bring(3, " + village + ")", x.bring(3, village), -1);
        }
        Checks.due("there is no way", x.bring(3, 2), -1);
        Checks.due("it was brought", x.bring(0, 1), -1);
        Checks.due("it was brought", x.bring(0, 0), -1);
        Checks.due("not brought", x.cloth(3, 7), -1);
        Checks.due("is(1, 1)", x.is(1, 1), 4);
        Checks.due("is(1, 2)", x.is(1, 2), 2);
        Checks.due("bring(3, 0), of its own VILLAGE", x.bring(3, 0), 1);
        Checks.due("brought", x.cloth(3, 7), 0);
        x.weave(1, 0, 2);
        x.road(1, 2, 9);
        Checks.due("there is a way", x.bring(4, 2), 1);
    }

    private static void millYards() {
        Checks.sentence("of MILL cloth (0 .. 9999 each); n isn't 1 .. 999, or more than 9999 would be.");
        for (int n : new int[] {-1, 0, 1, 999, 1000}) {
            WheelLand x = land();
            boolean can = n >= 1 && n <= 999;
            Checks.due("mill(0, " + n + ")", x.mill(0, n), can ? n : -1);
            Checks.due("is(0, 3)", x.is(0, 3), can ? n : 0);
        }
        WheelLand x = land();
        for (int k = 1; k <= 10; k++) {
            Checks.due("mill(0, 999)", x.mill(0, 999), 999 * k);
        }
        Checks.due("mill(0, 10)", x.mill(0, 10), -1);
        Checks.due("mill(0, 999)", x.mill(0, 999), -1);
        Checks.due("mill(0, 9)", x.mill(0, 9), 9999);
        Checks.due("mill(0, 1)", x.mill(0, 1), -1);
        Checks.due("is(0, 3)", x.is(0, 3), 9999);
        Checks.due("another STORE", x.mill(1, 1), 1);
        Checks.due("HAND beside 9999 of MILL", bring(x, 1, 0, true), 1);
        for (int village : new int[] {-1, 3, 8, Integer.MIN_VALUE, Integer.MAX_VALUE}) {
            Checks.due("mill(" + village + ", 1)", x.mill(village, 1), -1);
        }
    }

    private static void prices() {
        Checks.sentence("HAND price and MILL price (1 .. 99)");
        int[] parts = {0, 1, 2, 98, 99};
        for (int hand : parts) {
            for (int mill : parts) {
                WheelLand x = land();
                boolean can = hand > 0 && mill > 0;
                Checks.due("price(0, " + (hand * 100 + mill) + ")", x.price(0, hand * 100 + mill), can);
                Checks.due("HAND price", x.is(0, 4), can ? hand : 20);
                Checks.due("MILL price", x.is(0, 5), can ? mill : 10);
                Checks.due("HAND price beside", x.is(1, 4), 20);
            }
        }
        WheelLand x = land();
        for (int prices : new int[] {10001, 10000, 10101, -101, -1, Integer.MIN_VALUE, Integer.MAX_VALUE}) {
            Checks.due("price(0, " + prices + ")", x.price(0, prices), false);
        }
        for (int village : new int[] {-1, 3, 8, Integer.MIN_VALUE, Integer.MAX_VALUE}) {
            Checks.due("price(" + village + ", 101)", x.price(village, 101), false);
        }
        Checks.due("HAND price", x.is(0, 4), 20);
        Checks.due("MILL price", x.is(0, 5), 10);
    }

    private static void firstPrices() {
        Checks.sentence("20 and 10 at first");
        WheelLand x = land();
        x.go(20);
        x.village(0, 1, 0);
        Checks.due("HAND price", x.is(3, 4), 20);
        Checks.due("MILL price", x.is(3, 5), 10);
        Checks.due("WORD", x.is(3, 6), 0);
        for (int what : new int[] {1, 2, 3, 7, 8, 9, 10}) {
            Checks.due("is(3, " + what + ")", x.is(3, what), 0);
        }
    }

    private static void words() {
        Checks.sentence("WORD of a VILLAGE is 0 .. 20 (0 at first): TALK sets it");
        WheelLand x = land();
        Checks.due("WORD at first", x.is(0, 6), 0);
        for (int word = -1; word <= 21; word++) {
            boolean can = word >= 0 && word <= 20;
            Checks.due("talk(0, " + word + ")", x.talk(0, word), can ? word : -1);
            Checks.due("WORD", x.is(0, 6), Math.max(0, Math.min(word, 20)));
        }
        Checks.due("talk down", x.talk(0, 3), 3);
        Checks.due("WORD", x.is(0, 6), 3);
        Checks.due("talk(0, least)", x.talk(0, Integer.MIN_VALUE), -1);
        Checks.due("talk(0, most)", x.talk(0, Integer.MAX_VALUE), -1);
        for (int village : new int[] {-1, 3, 8, Integer.MIN_VALUE, Integer.MAX_VALUE}) {
            Checks.due("talk(" + village + ", 1)", x.talk(village, 1), -1);
        }
        Checks.due("WORD", x.is(0, 6), 3);
        Checks.due("WORD beside", x.is(1, 6), 0);
    }

    private static void wordSpreads() {
        Checks.sentence("it becomes the greatest of what it is less 1, and of each VILLAGE with a ROAD to it WORD (all as they were) less 2; 0 at least.");
        // a row of four VILLAGES, and one without ROADS
        int[][] all = {
            {20, 0, 0, 0, 20, 19, 18, 0, 0, 19}, {3, 0, 0, 0, 0, 2, 1, 0, 0, 0}, {2, 0, 0, 0, 1, 1, 0, 0, 0, 0},
            {1, 0, 0, 0, 2, 0, 0, 0, 0, 1}, {5, 5, 5, 5, 5, 4, 4, 4, 4, 4}, {5, 6, 0, 9, 0, 4, 5, 7, 8, 0},
            {0, 20, 0, 0, 0, 18, 19, 18, 0, 0}, {7, 9, 12, 1, 1, 7, 10, 11, 10, 0}};
        for (int[] w : all) {
            WheelLand x = new WheelLand();
            for (int k = 0; k < 5; k++) {
                x.village(0, 5, 0);
                x.talk(k, w[k]);
            }
            x.road(0, 1, 9);
            x.road(1, 2, 1);
            x.road(3, 2, 5);
            x.go(1);
            for (int k = 0; k < 5; k++) {
                Checks.due("WORD of " + k + " from " + w[k], x.is(k, 6), w[5 + k]);
            }
        }
    }

    private static void needs() {
        Checks.sentence("they need one, if WEEK and HEADS, together, have no rest by 4.");
        WheelLand x = new WheelLand();
        x.village(0, 5, 0);
        for (int heads = 1; heads <= 9; heads++) {
            x.house(0, 100 + heads);
        }
        int[] want = new int[10];
        for (int week = 0; week < 30; week++) {
            x.go(1);
            for (int heads = 1; heads <= 9; heads++) {
                want[heads] += (week + heads) % 4 == 0 ? 1 : 0;
                Checks.due("BARE of HEADS " + heads + " behind WEEK " + week, x.has(heads - 1, 7), want[heads]);
            }
        }
    }

    private static void likesHand() {
        Checks.sentence("They like HAND, if its price isn't above MILL price, duty (asked there; 0 at least) and WORD, together");
        WheelLand x = land();
        bring(x, 1, 0, true);
        x.mill(0, 1);
        x.coins(1, 999);
        int[][] all = {
            {1010, 0, 0, 0}, {1110, 0, 0, 1}, {1110, 1, 0, 0}, {1210, 1, 0, 1}, {1210, 0, 2, 0}, {1310, 0, 2, 1},
            {1310, 1, 2, 0}, {1410, 1, 2, 1}, {9999, 0, 0, 0}, {9998, 0, 0, 1}, {101, 0, 0, 0}, {2101, 20, 0, 0},
            {2201, 20, 0, 1}, {910, 0, 0, 0}};
        for (int k = 0; k < all.length; k++) {
            int[] w = all[k];
            if (k == 4) {
                Checks.enforce(x, "duty 2;", 1);
            } else if (k == 8) {
                Checks.enforce(x, "duty 0;", 1);
            }
            x.price(0, w[0]);
            x.talk(0, w[1]);
            Checks.due("likes by " + w[0] + ", WORD " + w[1] + ", duty " + w[2], x.likes(1), w[3]);
        }
    }

    private static void theOtherOne() {
        Checks.sentence("what they like first, the other one else, each if there is one");
        for (int yards = 0; yards < 4; yards++) {
            for (int prices : new int[] {1010, 1110}) {
                WheelLand x = land();
                if (yards % 2 == 1) {
                    bring(x, 1, 0, true);
                }
                if (yards > 1) {
                    x.mill(0, 1);
                }
                x.price(0, prices);
                x.coins(1, 999);
                int both = prices == 1010 ? 0 : 1;
                int want = yards == 3 ? both : yards == 1 ? 0 : yards == 2 ? 1 : -1;
                Checks.due("likes with " + yards, x.likes(1), want);
                x.go(3);
                Checks.due("HAND bought", x.has(1, 8), want == 0 ? 1 : 0);
                Checks.due("MILL bought", x.has(1, 9), want == 1 ? 1 : 0);
                Checks.due("BARE", x.has(1, 7), want == -1 ? 1 : 0);
                Checks.due("PURSE", x.has(1, 5), 999 - (want == 0 ? prices / 100 : want == 1 ? 10 : 0));
            }
        }
        for (int house : new int[] {-1, 2, 20, Integer.MIN_VALUE, Integer.MAX_VALUE}) {
            Checks.due("likes(" + house + ")", land().likes(house), -1);
        }
    }

    private static void purses() {
        Checks.sentence("and PURSE isn't less than its price (of MILL: and duty)");
        // HAND 12 first, MILL 10 and duty 3; then HAND 14 behind MILL
        int[][] all = {
            {1210, 11, -1}, {1210, 12, 0}, {1210, 13, 0}, {1410, 12, -1}, {1410, 13, 1}, {1410, 14, 1},
            {1310, 12, -1}, {1310, 13, 0}};
        for (int[] w : all) {
            WheelLand x = land();
            bring(x, 1, 0, false);
            Checks.enforce(x, "duty 3;", 1);
            x.mill(0, 1);
            x.price(0, w[0]);
            x.coins(1, w[1]);
            Checks.due("likes by " + w[0] + " with " + w[1], x.likes(1), w[2]);
            x.go(3);
            int cost = w[2] == 0 ? w[0] / 100 : w[2] == 1 ? 13 : 0;
            Checks.due("PURSE behind " + w[0], x.has(1, 5), w[1] - cost);
            Checks.due("BARE behind " + w[0], x.has(1, 7), w[2] == -1 ? 1 : 0);
            Checks.due("CROWN", x.count(9), w[2] == 1 ? 3 : 0);
        }
        WheelLand y = land();
        y.mill(0, 1);
        Checks.enforce(y, "duty 3;", 1);
        y.price(0, 9910);
        y.coins(1, 12);
        Checks.due("MILL alone, too dear by duty", y.likes(1), -1);
        y.coins(1, 1);
        Checks.due("MILL alone", y.likes(1), 1);
    }

    private static void dutyNoLess() {
        Checks.sentence("duty (asked there; 0 at least)");
        WheelLand x = land();
        bring(x, 1, 0, true);
        x.mill(0, 5);
        x.price(0, 1010);
        x.coins(1, 100);
        Checks.enforce(x, "duty 0-1;", 1);
        Checks.due("likes HAND of a like price", x.likes(1), 0);
        x.price(0, 1110);
        x.go(3);
        Checks.due("MILL bought", x.has(1, 9), 1);
        Checks.due("PURSE", x.has(1, 5), 90);
        Checks.due("CROWN", x.count(9), 0);
        WheelLand y = new WheelLand();
        y.village(0, 5, 0);
        y.village(0, 5, 0);
        y.house(0, 104);
        y.house(1, 104);
        y.coins(0, 99);
        y.coins(1, 99);
        y.mill(0, 1);
        y.mill(1, 1);
        y.price(0, 9930);
        y.price(1, 9920);
        Checks.enforce(y, "duty price-25;", 0);
        y.go(1);
        Checks.due("PURSE where the price is 30", y.has(0, 5), 99 - 35);
        Checks.due("PURSE where the price is 20", y.has(1, 5), 99 - 20);
        Checks.due("CROWN", y.count(9), 5);
    }

    private static void stampedAhead() {
        Checks.sentence("HAND: a STAMPED YARD ahead of others.");
        WheelLand x = land();
        bring(x, 2, 0, false);
        bring(x, 2, 0, true);
        x.coins(1, 999);
        int[][] want = {{1, 2, 1}, {0, 2, 2}, {0, 1, 2}, {0, 0, 2}, {0, 0, 2}};
        for (int k = 0; k < 5; k++) {
            x.go(k == 0 ? 3 : 4);
            Checks.due("STAMPED YARDS", x.is(0, 1), want[k][0]);
            Checks.due("others", x.is(0, 2), want[k][1]);
            Checks.due("STAMPED that it sold", x.is(0, 9), want[k][2]);
            Checks.due("HAND bought", x.has(1, 8), Math.min(k + 1, 4));
        }
        Checks.due("BARE", x.has(1, 7), 1);
    }

    private static void takings() {
        Checks.sentence("Coins go from PURSE to the STORE's TAKINGS (duty to the CROWN).");
        WheelLand x = land();
        bring(x, 1, 0, true);
        Checks.enforce(x, "duty 7;", 1);
        x.mill(0, 1);
        x.price(0, 1210);
        x.coins(1, 100);
        x.go(3);
        Checks.due("TAKINGS of HAND", x.is(0, 7), 12);
        Checks.due("CROWN of HAND", x.count(9), 0);
        x.go(4);
        Checks.due("TAKINGS of MILL", x.is(0, 7), 22);
        Checks.due("CROWN of MILL", x.count(9), 7);
        Checks.due("PURSE", x.has(1, 5), 100 - 29);
        Checks.due("MILL sold in this SEASON", x.is(0, 10), 1);
        Checks.due("TAKINGS beside", x.is(1, 7), 0);
        x.go(4);
        Checks.due("TAKINGS of none", x.is(0, 7), 22);
    }

    private static void bare() {
        Checks.sentence("Without either they are BARE one WEEK more.");
        WheelLand x = land();
        x.mill(0, 1);
        x.coins(1, 9);
        x.go(3);
        Checks.due("BARE by its PURSE", x.has(1, 7), 1);
        Checks.due("PURSE", x.has(1, 5), 9);
        x.go(3);
        Checks.due("BARE where nothing is needed", x.has(1, 7), 1);
        x.coins(1, 1);
        x.go(1);
        Checks.due("BARE of one that bought", x.has(1, 7), 1);
        x.coins(1, 100);
        x.go(4);
        Checks.due("BARE by an empty STORE", x.has(1, 7), 2);
        // house 0 (HEADS 1, PURSE 0) needed cloth as often
        Checks.due("BARE of the other", x.has(0, 7), 3);
    }

    /** One HOUSE of HEADS 4 that buys in WEEKS 0, 4, 8, 12 and so on, as long as there is MILL cloth. */
    private static WheelLand buyer(int yards, int price) {
        WheelLand x = new WheelLand();
        x.village(0, 5, 0);
        x.house(0, 104);
        x.coins(0, 9999);
        x.price(0, 9900 + price);
        if (yards > 0) {
            x.mill(0, yards);
        }
        return x;
    }

    private static void pricesByThe13th() {
        Checks.sentence("becomes one less, if fewer YARDS of MILL cloth were sold in that VILLAGE than in the SEASON ahead, else one more");
        // SEASON 0 has four WEEKS to buy in, SEASONS 1 to 3 have three, 4 again four
        int[][] all = {{0, 11, 12, 13, 14, 15}, {4, 11, 10, 11, 12, 13}, {7, 11, 10, 9, 10, 11}, {8, 11, 10, 9, 8, 9},
            {99, 11, 10, 11, 12, 13}};
        for (int[] w : all) {
            WheelLand x = buyer(w[0], 10);
            for (int season = 1; season <= 5; season++) {
                x.go(12);
                Checks.due("MILL price ahead of the 13th", x.is(0, 5), season == 1 ? 10 : w[season - 1]);
                x.go(1);
                Checks.due("MILL price of " + w[0] + " YARDS behind SEASON " + season, x.is(0, 5), w[season]);
                Checks.due("sold in this SEASON", x.is(0, 10), 0);
            }
            Checks.due("HAND price", x.is(0, 4), 99);
        }
    }

    private static void leastPrice() {
        Checks.sentence("(1 at least)");
        for (int price = 1; price <= 3; price++) {
            WheelLand x = buyer(4, 10);
            x.go(13);
            x.price(0, 9900 + price);
            x.go(13);
            Checks.due("MILL price one less than " + price, x.is(0, 5), Math.max(1, price - 1));
        }
    }

    private static void greatestPrice() {
        Checks.sentence("(99 at most)");
        for (int price = 97; price <= 99; price++) {
            WheelLand x = buyer(0, price);
            x.go(13);
            Checks.due("MILL price one more than " + price, x.is(0, 5), Math.min(99, price + 1));
            x.go(26);
            Checks.due("MILL price two SEASONS on", x.is(0, 5), 99);
        }
    }

    private static void seasonAhead() {
        Checks.sentence("10 YARDS of MILL cloth that it sold in this SEASON.");
        WheelLand x = buyer(99, 10);
        int[] want = {1, 1, 1, 1, 2, 2, 2, 2, 3, 3, 3, 3, 0, 0, 0, 0, 1};
        for (int week = 0; week < want.length; week++) {
            x.go(1);
            Checks.due("sold in this SEASON behind WEEK " + week, x.is(0, 10), want[week]);
        }
        WheelLand y = buyer(0, 10);
        y.go(13);
        y.mill(0, 1);
        y.go(13);
        Checks.due("one more than none", y.is(0, 5), 12);
        y.go(13);
        Checks.due("none after one", y.is(0, 5), 11);
        y.go(13);
        Checks.due("none after none", y.is(0, 5), 12);
    }

    /** VILLAGE 0, and VILLAGE 1 whose MILL price is told anew each WEEK: 20 and the WEEK; NOW is 9. */
    private static WheelLand hearer(int days) {
        WheelLand x = new WheelLand();
        for (int k = 0; k < 6; k++) {
            x.village(0, 5, 0);
        }
        for (int k = 2; k < 5; k++) {
            x.road(k, k + 1, 9);
        }
        x.road(1, 2, 9);
        for (int week = 0; week < 9; week++) {
            x.price(1, 9920 + week);
            x.go(1);
        }
        int left = days;
        int at = 1;
        while (left > 9) {
            left -= 9;
            at++;
        }
        x.road(at, 0, left);
        return x;
    }

    private static void heardByWeeks() {
        Checks.sentence("what it was as the WEEK began that is FAR by 7 (a begun WEEK as a whole one) WEEKS ahead of NOW");
        int[][] all = {
            {1, 1}, {6, 1}, {7, 1}, {8, 2}, {9, 2}, {13, 2}, {14, 2}, {15, 3}, {21, 3}, {22, 4}, {28, 4}, {29, 5}, {35, 5}};
        for (int[] w : all) {
            WheelLand x = hearer(w[0]);
            Checks.due("far", x.far(0, 1), w[0]);
            // as WEEK 9 began the price was that of WEEK 8, which is 28
            Checks.due("heard by " + w[0] + " DAYS", x.heard(0, 1), 28 - w[1]);
        }
        WheelLand x = hearer(1);
        Checks.due("heard by 0 DAYS", x.heard(1, 1), 28);
        x.price(1, 9970);
        Checks.due("heard by 0 DAYS, told anew", x.heard(1, 1), 28);
        Checks.due("heard by 1 DAY, told anew", x.heard(0, 1), 27);
        x.go(1);
        Checks.due("heard by 0 DAYS, a WEEK on", x.heard(1, 1), 70);
        Checks.due("heard by 1 DAY, a WEEK on", x.heard(0, 1), 28);
        x.go(1);
        Checks.due("heard by 1 DAY, two WEEKS on", x.heard(0, 1), 70);
    }

    private static void heardAheadOfAll() {
        Checks.sentence("(as the first one began, if that is ahead of it; ahead of its coming: 10)");
        WheelLand x = new WheelLand();
        for (int k = 0; k < 6; k++) {
            x.village(0, 5, 0);
        }
        for (int k = 0; k < 5; k++) {
            x.road(k, k + 1, 9);
        }
        x.price(0, 9930);
        // 45 DAYS are 7 WEEKS
        for (int week = 0; week < 10; week++) {
            Checks.due("heard NOW " + week, x.heard(5, 0), week < 8 ? 10 : 30);
            Checks.due("heard in itself NOW " + week, x.heard(0, 0), week < 1 ? 10 : 30);
            x.go(1);
        }
        Checks.due("NOW", x.count(0), 10);
        x.village(0, 5, 0);
        x.price(6, 9940);
        x.road(6, 0, 7);
        Checks.due("heard of one that came NOW", x.heard(0, 6), 10);
        Checks.due("heard in itself, as it came", x.heard(6, 6), 10);
        x.go(1);
        Checks.due("heard as the WEEK of its coming began", x.heard(0, 6), 10);
        Checks.due("heard in itself", x.heard(6, 6), 40);
        x.go(1);
        Checks.due("heard behind its coming", x.heard(0, 6), 40);
        Checks.due("heard from afar", x.heard(5, 6), 10);
    }

    private static void heardAsTheWeekBegan() {
        Checks.sentence("what it was as the WEEK began");
        WheelLand x = new WheelLand();
        x.village(0, 5, 0);
        x.village(0, 5, 0);
        x.road(0, 1, 1);
        x.go(12);
        Checks.due("heard NOW 12", x.heard(0, 1), 10);
        x.go(1);
        Checks.due("heard NOW 13", x.heard(0, 1), 10);
        Checks.due("heard in itself NOW 13", x.heard(1, 1), 11);
        x.go(1);
        Checks.due("heard NOW 14", x.heard(0, 1), 11);
        x.price(1, 9950);
        x.price(1, 9960);
        x.go(1);
        Checks.due("heard of what didn't stay", x.heard(1, 1), 60);
    }

    private static void heardNone() {
        Checks.sentence("HEARD; NONE if there are none such, no way, or NOW is 156.");
        WheelLand x = land();
        for (int village : new int[] {-1, 3, 8, Integer.MIN_VALUE, Integer.MAX_VALUE}) {
            Checks.due("heard(" + village + ", 0)", x.heard(village, 0), -1);
            Checks.due("heard(0, " + village + ")", x.heard(0, village), -1);
        }
        Checks.due("no way", x.heard(0, 2), -1);
        Checks.due("no way", x.heard(2, 0), -1);
        Checks.due("in itself without a way", x.heard(2, 2), 10);
        for (int k = 0; k < 5; k++) {
            x.go(26);
        }
        x.go(24);
        Checks.due("NOW", x.count(0), 155);
        Checks.due("heard NOW 155", x.heard(0, 1), 21);
        Checks.due("heard in itself NOW 155", x.heard(1, 1), 21);
        x.go(1);
        Checks.due("heard NOW 156", x.heard(0, 1), -1);
        Checks.due("heard in itself NOW 156", x.heard(1, 1), -1);
        Checks.due("MILL price", x.is(1, 5), 22);
    }

    private static void soldYards() {
        Checks.sentence("SOLD are YARDS that a STORE says were STAMPED and sold (told; 0 .. 9999 in all).");
        for (int n : new int[] {-1, 0, 1, 999, 1000}) {
            WheelLand x = land();
            boolean can = n >= 1 && n <= 999;
            Checks.due("sold(0, " + n + ")", x.sold(0, n), can ? n : -1);
            Checks.due("is(0, 8)", x.is(0, 8), can ? n : 0);
        }
        WheelLand x = land();
        for (int k = 1; k <= 10; k++) {
            Checks.due("sold(0, 999)", x.sold(0, 999), 999 * k);
        }
        Checks.due("sold(0, 10)", x.sold(0, 10), -1);
        Checks.due("sold(0, 9)", x.sold(0, 9), 9999);
        Checks.due("sold(0, 1)", x.sold(0, 1), -1);
        Checks.due("is(0, 8)", x.is(0, 8), 9999);
        Checks.due("another STORE", x.sold(2, 1), 1);
        for (int village : new int[] {-1, 3, 8, Integer.MIN_VALUE, Integer.MAX_VALUE}) {
            Checks.due("sold(" + village + ", 1)", x.sold(village, 1), -1);
            Checks.due("wrong(" + village + ", true)", x.wrong(village, true), -1);
            Checks.due("wrong(" + village + ", false)", x.wrong(village, false), -1);
        }
    }

    private static void falseSurely() {
        Checks.sentence("FALSE surely: what is SOLD above all YARDS STAMPED that ever were brought there (0 at least)");
        WheelLand x = land();
        bring(x, 5, 0, true);
        bring(x, 7, 0, false);
        bring(x, 3, 1, true);
        x.mill(0, 9);
        Checks.due("surely of none SOLD", x.wrong(0, false), 0);
        for (int sold = 1; sold <= 8; sold++) {
            x.sold(0, 1);
            Checks.due("surely of " + sold, x.wrong(0, false), Math.max(0, sold - 5));
        }
        x.price(0, 1010);
        x.coins(1, 999);
        x.go(7);
        Checks.due("STAMPED YARDS there yet", x.is(0, 1), 3);
        Checks.due("surely of all that ever were brought", x.wrong(0, false), 3);
    }

    private static void falseAtMost() {
        Checks.sentence("at most: what is SOLD above YARDS STAMPED that the STORE sold to HOUSES (0 at least).");
        WheelLand x = land();
        bring(x, 3, 0, true);
        bring(x, 3, 0, false);
        x.coins(1, 999);
        Checks.due("at most of none SOLD", x.wrong(0, true), 0);
        x.sold(0, 2);
        Checks.due("at most of 2", x.wrong(0, true), 2);
        int[] want = {1, 0, 0, 0};
        for (int k = 0; k < 4; k++) {
            x.go(k == 0 ? 3 : 4);
            Checks.due("HAND bought", x.has(1, 8), k + 1);
            Checks.due("at most", x.wrong(0, true), want[k]);
        }
        x.sold(0, 1);
        Checks.due("at most of 3", x.wrong(0, true), 0);
        x.sold(0, 1);
        Checks.due("at most of 4, one of the others sold", x.wrong(0, true), 1);
    }

    private static void looks() {
        Checks.sentence("LOOK is the STORE where most and least differ most, of like ones the least; NONE, if nowhere.");
        WheelLand x = land();
        Checks.due("look of none", x.look(), -1);
        x.sold(0, 5);
        x.sold(1, 5);
        Checks.due("look where all is surely FALSE", x.look(), -1);
        bring(x, 1, 1, true);
        Checks.due("look of one", x.look(), 1);
        bring(x, 1, 0, true);
        Checks.due("look of like ones", x.look(), 0);
        bring(x, 1, 1, true);
        Checks.due("look of 1 and 2", x.look(), 1);
        bring(x, 3, 0, true);
        Checks.due("look of 4 and 2", x.look(), 0);
        bring(x, 9, 1, true);
        Checks.due("look of 4 and 5", x.look(), 1);
        Checks.due("look of an empty land", new WheelLand().look(), -1);
        WheelLand y = land();
        bring(y, 2, 0, true);
        Checks.due("look of none SOLD", y.look(), -1);
        y.sold(0, 2);
        Checks.due("look", y.look(), 0);
        y.coins(1, 999);
        y.go(7);
        Checks.due("look where all were sold", y.look(), -1);
    }

    private static void likesAtTheEnd() {
        Checks.sentence("What a HOUSE would buy NOW, if it needs cloth: 0 HAND, 1 MILL, NONE neither, or none such.");
        WheelLand x = land();
        x.mill(2, 9);
        x.house(2, 101);
        x.coins(2, 999);
        Checks.due("likes NOW 1", x.likes(2), 1);
        for (int k = 0; k < 6; k++) {
            x.go(26);
        }
        Checks.due("likes of an empty STORE", x.likes(2), -1);
        x.mill(2, 1);
        Checks.due("NOW", x.count(0), 156);
        Checks.due("likes NOW 156", x.likes(2), 1);
    }
}
