import java.util.ArrayList;
import java.util.Arrays;
import java.util.List;

/**
 * "What is refused changes nothing": lands are made alike, one of them is asked what is refused, and both must
 * answer alike then, at once and a season on. Each is asked less than the 512 calls that are promised.
 */
final class Twins {
    private Twins() {
    }

    interface Maker {
        WheelLand make();
    }

    interface Call {
        long ask(WheelLand x);
    }

    static void refused(String call, Maker maker, Call asked, long answer) {
        WheelLand tried = maker.make();
        Checks.due(call, asked.ask(tried), answer);
        alike(call + ", at once", answers(maker.make()), answers(tried));
        WheelLand later = maker.make();
        asked.ask(later);
        alike(call + ", a season on", seasonOn(maker.make()), seasonOn(later));
    }

    static void refused(String call, Maker maker, Call asked) {
        refused(call, maker, asked, WheelLand.NONE);
    }

    private static void alike(String call, List<String> want, List<String> got) {
        for (int k = 0; k < want.size() || k < got.size(); k++) {
            String due = k < want.size() ? want.get(k) : "no answer";
            String is = k < got.size() ? got.get(k) : "no answer";
            if (!due.equals(is)) {
                System.out.println("behind " + call + ": " + is + " in place of " + due);
                Checks.due("what stands behind " + call, false, true);
                return;
            }
        }
        Checks.due("what stands behind " + call, true, true);
    }

    /** What a land answers when its TEXT is IN FORCE and 13 WEEKS more have ended. */
    private static List<String> seasonOn(WheelLand x) {
        List<String> all = new ArrayList<>();
        int sheet = x.sheet();
        all.add("sheet " + sheet + " force " + x.force(sheet, x.count(0)));
        all.add("go " + x.go(13));
        all.addAll(answers(x));
        return all;
    }

    /** The first three of so many, and the last one. */
    private static int[] some(int many) {
        return many > 4 ? new int[] {0, 1, 2, many - 1} : Arrays.copyOf(new int[] {0, 1, 2, 3}, many);
    }

    private static List<String> answers(WheelLand x) {
        List<String> all = new ArrayList<>();
        for (int what = 0; what <= 9; what++) {
            all.add("count " + what + ": " + x.count(what));
        }
        villages(x, all);
        houses(x, all);
        for (int lot : some(x.count(3))) {
            for (int what = 0; what <= 5; what++) {
                all.add("lot " + lot + " " + what + ": " + x.lot(lot, what));
            }
        }
        for (int cloth : some(x.count(5))) {
            for (int what = 0; what <= 7; what++) {
                all.add("cloth " + cloth + " " + what + ": " + x.cloth(cloth, what));
            }
        }
        texts(x, all);
        heaps(x, all);
        return all;
    }

    private static void villages(WheelLand x, List<String> all) {
        for (int village : some(x.count(1))) {
            for (int what = 0; what <= 10; what++) {
                all.add("is " + village + " " + what + ": " + x.is(village, what));
            }
            for (int other : some(x.count(1))) {
                all.add("far " + village + " " + other + ": " + x.far(village, other));
                all.add("heard " + village + " " + other + ": " + x.heard(village, other));
            }
            all.add("wrong " + village + ": " + x.wrong(village, false) + " " + x.wrong(village, true));
        }
        all.add("look: " + x.look());
    }

    private static void houses(WheelLand x, List<String> all) {
        for (int house : some(x.count(2))) {
            for (int what = 0; what <= 10; what++) {
                all.add("has " + house + " " + what + ": " + x.has(house, what));
            }
            for (int what = 0; what <= 4; what++) {
                all.add("due " + house + " " + what + ": " + x.due(house, what));
            }
            all.add("likes " + house + ": " + x.likes(house));
            all.add("keeps " + house + ": " + x.keeps(house, 1));
            all.add("bar " + house + ": " + x.bar(house, x.count(3) - 1, 2));
        }
        all.add("hungry: " + x.hungry(1) + " " + x.hungry(9));
    }

    private static void texts(WheelLand x, List<String> all) {
        all.add("fault: " + x.fault());
        int now = x.count(0);
        for (int clause = 0; clause <= 4; clause++) {
            all.add("why " + clause + ": " + x.why(clause, now) + " " + x.why(clause, now + 1) + " " + x.why(clause, 155));
        }
        for (int number = 0; number <= 5; number++) {
            all.add("told " + number + ": " + x.told(now - 1, number) + " " + x.check(now - 1, number, 1));
        }
    }

    private static void heaps(WheelLand x, List<String> all) {
        for (int what = 0; what <= 2; what++) {
            all.add("best " + what + ": " + x.best(9, what) + " " + x.best(999, what));
        }
        int looms = (1 << Math.min(x.count(2), 6)) - 1;
        for (int what : new int[] {0, 1, 2, 10, 11, 15}) {
            all.add("hands " + what + ": " + x.hands(looms, what));
        }
    }
}
