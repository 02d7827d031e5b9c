/** 'Terms', part 1, and promises 1 to 9: each sentence that names a bound or a case at its edge. */
public final class LandEdgesTest {
    private static final int VOID = WheelLand.VOID;

    public static void main(String[] args) {
        weeks();
        seasons();
        manyVillages();
        idleHours();
        idleDigits();
        staples();
        cottons();
        daysOfRoads();
        roadsAnew();
        farthest();
        manyHouses();
        allParts();
        wheels();
        skills();
        castes();
        heads();
        purses();
        coins();
        aims();
        loomsOnce();
        loomCounts();
        loomHanks();
        cottonComes();
        newObject();
        Checks.finish("LandEdgesTest");
    }

    private static WheelLand village(int idle, int staple, int cotton) {
        WheelLand x = new WheelLand();
        Checks.due("village(" + idle + ", " + staple + ", " + cotton + ")", x.village(idle, staple, cotton), 0);
        return x;
    }

    private static void weeks() {
        Checks.sentence("WEEKS are 0 .. 155; NOW is one (0 at first; 156 behind the last one).");
        WheelLand x = village(40404040, 9, 9999);
        x.house(0, 1111);
        Checks.due("NOW at first", x.count(0), 0);
        Checks.due("told(0, 1), ahead of its end", x.told(0, 1), -1);
        for (int week = 26; week <= 130; week += 26) {
            Checks.due("go(26)", x.go(26), week);
        }
        Checks.due("go(25)", x.go(25), 155);
        Checks.due("NOW, the last one", x.count(0), 155);
        Checks.due("why(0, 155)", x.force(x.sheet(), 155), 1);
        Checks.due("told(155, 1), ahead of its end", x.told(155, 1), -1);
        Checks.due("go(1)", x.go(1), 156);
        Checks.due("NOW behind the last one", x.count(0), 156);
        Checks.due("told(155, 1)", x.told(155, 1), 14);
        Checks.due("lot(155, 1)", x.lot(155, 1), 155);
        Checks.due("go(1) once more", x.go(1), 156);
        Checks.due("lots", x.count(3), 156);
        Checks.due("told(156, 1)", x.told(156, 1), -1);
    }

    private static void seasons() {
        Checks.sentence("The SEASON is the WEEK by 13 (cut), the rest of that by 4.");
        WheelLand x = village(0, 5, 0);
        x.house(0, 1111);
        Checks.enforce(x, "wage week*10+season;", 0);
        int[][] want = {
            {0, 0}, {12, 0}, {13, 1}, {25, 1}, {26, 2}, {38, 2}, {39, 3}, {51, 3}, {52, 0}, {64, 0}, {65, 1},
            {103, 3}, {104, 0}, {142, 2}, {143, 3}, {155, 3}};
        for (int[] w : want) {
            while (x.count(0) < w[0]) {
                x.go(1);
            }
            Checks.due("WEEK and SEASON at " + w[0], x.keeps(0, 1), w[0] * 10 + w[1]);
        }
    }

    private static void manyVillages() {
        Checks.sentence("VILLAGES have numbers as they come, at most 8");
        WheelLand x = new WheelLand();
        for (int k = 0; k < 8; k++) {
            Checks.due("village", x.village(0, 1, k), k);
            Checks.due("VILLAGES", x.count(1), k + 1);
        }
        Checks.due("the ninth", x.village(0, 1, 8), -1);
        Checks.due("VILLAGES", x.count(1), 8);
        Checks.due("of the ninth", x.is(8, 0), -1);
        Checks.due("of the eighth", x.is(7, 0), 7);
        Checks.due("road of the eighth", x.road(7, 0, 1), true);
        Checks.due("road of the ninth", x.road(8, 0, 1), false);
    }

    private static void idleHours() {
        Checks.sentence("IDLE hours of a WHEEL in a WEEK of each SEASON (0 .. 40)");
        int[] ones = {1000000, 10000, 100, 1};
        for (int season = 0; season < 4; season++) {
            for (int idle : new int[] {0, 1, 39, 40}) {
                WheelLand x = village(idle * ones[season], 5, 0);
                x.house(0, 1211);
                for (int k = 0; k < season; k++) {
                    x.go(13);
                }
                Checks.due("CAN ahead of SEASON " + season, x.due(0, 2), 0);
                x.go(1);
                // one WHEEL, 10 and SKILL 2 by 24
                Checks.due("IDLE " + idle + " of SEASON " + season, x.due(0, 2), idle / 2);
            }
            for (int idle : new int[] {41, 50, 99}) {
                WheelLand x = new WheelLand();
                Checks.due("IDLE " + idle, x.village(idle * ones[season], 5, 0), -1);
                Checks.due("VILLAGES", x.count(1), 0);
            }
        }
        WheelLand x = new WheelLand();
        Checks.due("IDLE 40 of each", x.village(40404040, 5, 0), 0);
        Checks.due("IDLE 0 of each", x.village(0, 5, 0), 1);
    }

    private static void idleDigits() {
        Checks.sentence("Idle is of SEASONS 0 .. 3, two digits each, the first the highest.");
        WheelLand x = village(2040608, 5, 0);
        x.house(0, 1211);
        int all = 0;
        for (int season = 0; season < 8; season++) {
            x.go(13);
            all += 13 * (1 + season % 4);
            Checks.due("CAN behind SEASON " + season, x.due(0, 2), all);
        }
        Checks.due("nine digits", x.village(100000000, 5, 0), -1);
        Checks.due("nine digits, the last eight fine", x.village(110101010, 5, 0), -1);
        Checks.due("below 0", x.village(-1, 5, 0), -1);
        Checks.due("below 0, each fine", x.village(-10101010, 5, 0), -1);
        Checks.due("VILLAGES", x.count(1), 1);
    }

    private static void staples() {
        Checks.sentence("a STAPLE (1 .. 9)");
        int[] want = {-1, 16, 36, 56, 76, 96, 116, 136, 156, 176, -1};
        for (int staple = 0; staple <= 10; staple++) {
            WheelLand x = new WheelLand();
            boolean can = staple >= 1 && staple <= 9;
            Checks.due("STAPLE " + staple, x.village(40404040, staple, 9), can ? 0 : -1);
            x.house(0, 2211);
            x.aim(0, 5);
            x.go(1);
            // 20 times STAPLE and 6 less 10
            Checks.due("STRENGTH by STAPLE " + staple, x.lot(0, 3), want[staple]);
        }
    }

    private static void cottons() {
        Checks.sentence("COTTON (pounds, 0 .. 9999)");
        for (int cotton : new int[] {0, 1, 9998, 9999}) {
            Checks.due("COTTON", village(0, 1, cotton).is(0, 0), cotton);
        }
        for (int cotton : new int[] {-1, 10000}) {
            WheelLand x = new WheelLand();
            Checks.due("COTTON " + cotton, x.village(0, 1, cotton), -1);
            Checks.due("VILLAGES", x.count(1), 0);
        }
    }

    private static WheelLand villages(int many) {
        WheelLand x = new WheelLand();
        for (int k = 0; k < many; k++) {
            x.village(0, 5, 0);
        }
        return x;
    }

    private static void daysOfRoads() {
        Checks.sentence("ROADS between two VILLAGES take DAYS (1 .. 9)");
        WheelLand x = villages(3);
        for (int days = 0; days <= 10; days++) {
            WheelLand y = villages(2);
            boolean can = days >= 1 && days <= 9;
            Checks.due("road of " + days, y.road(0, 1, days), can);
            Checks.due("far by a road of " + days, y.far(0, 1), can ? days : -1);
        }
        Checks.due("a road to itself", x.road(1, 1, 5), false);
        Checks.due("a road to none", x.road(1, 3, 5), false);
        Checks.due("a road from none", x.road(-1, 1, 5), false);
        Checks.due("a road to the last one", x.road(0, 2, 5), true);
    }

    private static void roadsAnew() {
        Checks.sentence("told anew in place of what was");
        WheelLand x = villages(2);
        x.road(0, 1, 5);
        Checks.due("told anew, more", x.road(0, 1, 9), true);
        Checks.due("far", x.far(0, 1), 9);
        Checks.due("told anew, the other way", x.road(1, 0, 2), true);
        Checks.due("far", x.far(0, 1), 2);
        Checks.due("far back", x.far(1, 0), 2);
        Checks.due("refused", x.road(0, 1, 10), false);
        Checks.due("far", x.far(0, 1), 2);
    }

    private static void farthest() {
        Checks.sentence("FAR is the least DAYS by ROADS from one to another (0 to itself; NONE without).");
        WheelLand x = villages(8);
        for (int k = 0; k < 8; k++) {
            Checks.due("far to itself", x.far(k, k), 0);
            Checks.due("far without", x.far(k, (k + 1) % 8), -1);
        }
        for (int k = 0; k < 7; k++) {
            x.road(k, k + 1, 9);
        }
        Checks.due("far by seven roads", x.far(0, 7), 63);
        Checks.due("far back by seven roads", x.far(7, 0), 63);
        Checks.due("far to itself, with roads", x.far(3, 3), 0);
        x.road(0, 6, 9);
        Checks.due("far by the less", x.far(0, 7), 18);
        x.road(0, 7, 9);
        Checks.due("far by one road", x.far(0, 7), 9);
        Checks.due("far round", x.far(0, 5), 18);
        x.road(1, 5, 1);
        x.road(0, 1, 1);
        Checks.due("far by more roads that are less", x.far(0, 6), 9);
        Checks.due("far by more roads that are less", x.far(0, 5), 2);
        Checks.due("far by more roads that are less", x.far(0, 4), 11);
        Checks.due("far to none", x.far(0, 8), -1);
        Checks.due("far from none", x.far(-1, 0), -1);
        Checks.due("far of none to itself", x.far(8, 8), -1);
        WheelLand y = villages(7);
        Checks.due("far of one that may come yet", y.far(7, 7), -1);
    }

    private static void manyHouses() {
        Checks.sentence("HOUSES have numbers as they come, at most 20");
        WheelLand x = villages(2);
        for (int k = 0; k < 20; k++) {
            Checks.due("house", x.house(k % 2, 1111), k);
            Checks.due("HOUSES", x.count(2), k + 1);
        }
        Checks.due("the next one", x.house(0, 1111), -1);
        Checks.due("HOUSES", x.count(2), 20);
        Checks.due("of the next one", x.has(20, 0), VOID);
        Checks.due("of the last one", x.has(19, 0), 1);
        Checks.due("aim of the last one", x.aim(19, 4), true);
        Checks.due("aim of the next one", x.aim(20, 4), false);
        WheelLand y = villages(1);
        y.go(26);
        for (int k = 0; k < 4; k++) {
            y.go(26);
        }
        y.go(25);
        Checks.due("a house NOW 155", y.house(0, 1111), 0);
        y.go(1);
        Checks.due("a house NOW 156", y.house(0, 1111), -1);
        Checks.due("HOUSES", y.count(2), 1);
    }

    /** One of a HOUSE's numbers: least and greatest that can be, and the values beside them. */
    private static void part(int what, int ones, int least, int most) {
        int fine = 1111 - ones;
        for (int n = 0; n <= 9; n++) {
            WheelLand x = villages(1);
            boolean can = n >= least && n <= most;
            Checks.due("house(0, " + (fine + n * ones) + ")", x.house(0, fine + n * ones), can ? 0 : -1);
            Checks.due("has(0, " + what + ")", x.has(0, what), can ? n : VOID);
            Checks.due("HOUSES", x.count(2), can ? 1 : 0);
        }
    }

    private static void allParts() {
        Checks.sentence("What is WHEELS * 1000 + SKILL * 100 + CASTE * 10 + HEADS.");
        for (int what : new int[] {5959, 101, 5101, 959, 5151, 5901, 4959, 1234, 3549}) {
            WheelLand x = villages(1);
            Checks.due("house(0, " + what + ")", x.house(0, what), 0);
            int rest = what;
            for (int part = 4; part >= 1; part--) {
                Checks.due("has(0, " + part + ") of " + what, x.has(0, part), rest % 10);
                rest /= 10;
            }
        }
    }

    private static void wheels() {
        Checks.sentence("WHEELS (0 .. 5)");
        part(1, 1000, 0, 5);
        WheelLand x = villages(1);
        Checks.due("WHEELS 10", x.house(0, 10111), -1);
        Checks.due("below 0", x.house(0, -1111), -1);
        Checks.due("below 0", x.house(0, -889), -1);
        Checks.due("HOUSES", x.count(2), 0);
    }

    private static void skills() {
        Checks.sentence("SKILL (1 .. 9)");
        part(2, 100, 1, 9);
    }

    private static void castes() {
        Checks.sentence("CASTE (0 .. 5)");
        part(3, 10, 0, 5);
    }

    private static void heads() {
        Checks.sentence("HEADS (1 .. 9)");
        part(4, 1, 1, 9);
    }

    private static void purses() {
        Checks.sentence("a PURSE (coins; 0 at first, may be below)");
        WheelLand x = villages(1);
        x.house(0, 1111);
        Checks.due("PURSE at first", x.has(0, 5), 0);
        Checks.due("PURSE below", x.coins(0, -1), -1);
        Checks.due("PURSE below", x.has(0, 5), -1);
        Checks.due("PURSE again", x.coins(0, 1), 0);
        for (int k = 1; k <= 30; k++) {
            Checks.due("PURSE far below", x.coins(0, -9999), -9999 * k);
        }
    }

    private static void coins() {
        Checks.sentence("Coins come to a PURSE (-9999 .. 9999): what it has; VOID if there is no such HOUSE, or it can't be.");
        int[] all = {-10000, -9999, -1, 0, 1, 9999, 10000};
        for (int n : all) {
            WheelLand x = villages(1);
            x.house(0, 1111);
            boolean can = n >= -9999 && n <= 9999;
            Checks.due("coins(0, " + n + ")", x.coins(0, n), can ? n : VOID);
            Checks.due("PURSE", x.has(0, 5), can ? n : 0);
            Checks.due("of none", x.coins(1, n), VOID);
            Checks.due("of none", x.coins(-1, n), VOID);
        }
    }

    private static void aims() {
        Checks.sentence("an AIM (a COUNT 4 .. 60; 10 at first)");
        int[] all = {3, 4, 5, 59, 60, 61, 0, -4};
        for (int count : all) {
            WheelLand x = villages(1);
            x.house(0, 1111);
            Checks.due("AIM at first", x.has(0, 6), 10);
            boolean can = count >= 4 && count <= 60;
            Checks.due("aim(0, " + count + ")", x.aim(0, count), can);
            Checks.due("AIM", x.has(0, 6), can ? count : 10);
            Checks.due("of none", x.aim(1, 10), false);
        }
    }

    /** House 0 spins COUNT 4 (lot 0), 5 (lot 1), 59 (lot 2) and 60 (lot 3); the others may have a LOOM. */
    private static WheelLand counts() {
        WheelLand x = village(40404040, 9, 9999);
        x.house(0, 5911);
        for (int k = 1; k <= 6; k++) {
            x.house(0, 111);
        }
        for (int count : new int[] {4, 5, 59, 60}) {
            x.aim(0, count);
            x.go(1);
        }
        return x;
    }

    private static void loomsOnce() {
        Checks.sentence("One may have a LOOM (told once)");
        WheelLand x = counts();
        Checks.due("without", x.has(1, 10), -1);
        Checks.due("BAR without", x.bar(1, 0, 2), 1);
        Checks.due("loom", x.loom(1, 404, 2), true);
        Checks.due("with", x.has(1, 10), 0);
        Checks.due("loom again", x.loom(1, 460, 40), false);
        Checks.due("loom again, the same", x.loom(1, 404, 2), false);
        Checks.due("BAR of another count", x.bar(1, 1, 2), 2);
        Checks.due("BAR of more", x.bar(1, 0, 4), 7);
        Checks.due("BAR", x.bar(1, 0, 2), 0);
        Checks.due("another house without", x.has(2, 10), -1);
    }

    private static void loomCounts() {
        Checks.sentence("COUNTS from .. to (4 .. 60); false if it can't be (from above to, too). Counts are from * 100 + to.");
        WheelLand x = counts();
        int[] wrong = {360, 461, 304, 403, 3, 4, 60, 400, 6004, 504, 6059, 6160, 6061, 6161, 10460, -404, -460};
        for (int counts : wrong) {
            Checks.due("loom(1, " + counts + ", 40)", x.loom(1, counts, 40), false);
            Checks.due("without", x.has(1, 10), -1);
        }
        // of COUNT 59 the STRENGTH, 180 and 27 less 118, is 59 and 30 just so; of 60 it is below
        int[][] fine = {
            {404, 0, 2, 2, 2}, {460, 0, 0, 0, 3}, {6060, 2, 2, 2, 3}, {559, 2, 0, 0, 2}, {405, 0, 0, 2, 2},
            {5960, 2, 2, 0, 3}};
        for (int k = 0; k < fine.length; k++) {
            Checks.due("loom(" + (k + 1) + ", " + fine[k][0] + ", 40)", x.loom(k + 1, fine[k][0], 40), true);
            for (int lot = 0; lot < 4; lot++) {
                Checks.due("BAR of lot " + lot, x.bar(k + 1, lot, 2), fine[k][1 + lot]);
            }
        }
    }

    private static void loomHanks() {
        Checks.sentence("HANKS that it can weave in a WEEK (1 .. 40)");
        WheelLand x = counts();
        for (int hanks : new int[] {0, -1, 41, 100}) {
            Checks.due("loom(1, 460, " + hanks + ")", x.loom(1, 460, hanks), false);
            Checks.due("without", x.has(1, 10), -1);
        }
        Checks.due("loom(1, 460, 1)", x.loom(1, 460, 1), true);
        Checks.due("BAR of 2 by 1", x.bar(1, 0, 2), 7);
        Checks.due("loom(2, 460, 40)", x.loom(2, 460, 40), true);
        Checks.due("BAR of 40 by 40", x.bar(2, 0, 40), 0);
        Checks.due("BAR of 42 by 40", x.bar(2, 0, 42), 7);
        Checks.due("loom(3, 460, 2)", x.loom(3, 460, 2), true);
        Checks.due("BAR of 2 by 2", x.bar(3, 0, 2), 0);
        Checks.due("loom of none", x.loom(7, 460, 2), false);
        Checks.due("loom of none", x.loom(-1, 460, 2), false);
    }

    private static void cottonComes() {
        Checks.sentence("COTTON comes to a VILLAGE: NONE if there is none such, n isn't 1 .. 999, or more than 9999 would be.");
        for (int n : new int[] {0, 1, 999, 1000}) {
            WheelLand x = village(0, 1, 7);
            boolean can = n >= 1 && n <= 999;
            Checks.due("cotton(0, " + n + ")", x.cotton(0, n), can ? 7 + n : -1);
            Checks.due("COTTON", x.is(0, 0), can ? 7 + n : 7);
            Checks.due("of none", x.cotton(1, n), -1);
        }
        WheelLand x = village(0, 1, 9996);
        Checks.due("more than 9999", x.cotton(0, 4), -1);
        Checks.due("COTTON", x.is(0, 0), 9996);
        Checks.due("up to 9999", x.cotton(0, 3), 9999);
        Checks.due("one more", x.cotton(0, 1), -1);
        Checks.due("COTTON", x.is(0, 0), 9999);
    }

    private static void newObject() {
        Checks.sentence("No VILLAGES; NOW is 0.");
        WheelLand x = new WheelLand();
        for (int what = 0; what <= 9; what++) {
            Checks.due("count(" + what + ")", x.count(what), 0);
        }
        Checks.due("is(0, 0)", x.is(0, 0), -1);
        Checks.due("has(0, 0)", x.has(0, 0), VOID);
        Checks.due("lot(0, 0)", x.lot(0, 0), -1);
        Checks.due("cloth(0, 0)", x.cloth(0, 0), -1);
        Checks.due("far(0, 0)", x.far(0, 0), -1);
        Checks.due("road(0, 1, 1)", x.road(0, 1, 1), false);
        Checks.due("house(0, 1111)", x.house(0, 1111), -1);
        Checks.due("look", x.look(), -1);
        Checks.due("force(0, 0)", x.force(0, 0), -1);
        Checks.due("hungry(99)", x.hungry(99), 0);
    }
}
