import java.util.Random;

/**
 * All promises: long runs of calls, likely and unlikely ones, each answered as Model answers it;
 * from time to time all that can be asked is asked, so that a refused call that changed something shows.
 */
public final class ModelTest {
    private static final String[] WORDS = {
        "owe", "wage", "duty", "may", "stamp", "or", "and", "not", "week", "season", "heads", "wheels", "skill",
        "caste", "other", "count", "strength", "hanks", "idle", "far", "price", "x", "0", "7", "9999", "10000",
        "+", "-", "*", "/", "(", ")", "[", "]", "<", ">", "=", ";", " ", "\n", "$", "\u00e9"};

    private final Random random;
    private final WheelLand x = new WheelLand();
    private final Model model = new Model();
    private final int style;

    private ModelTest(int seed) {
        random = new Random(seed);
        style = seed % 4;
    }

    public static void main(String[] args) {
        for (int seed = 0; seed < 240; seed++) {
            new ModelTest(seed).run(480);
        }
        for (int seed = 0; seed < 4000; seed++) {
            new ModelTest(seed).texts();
        }
        Checks.finish("ModelTest");
    }

    private int to(int most) {
        return random.nextInt(most + 1);
    }

    private boolean odds(int one, int of) {
        return random.nextInt(of) < one;
    }

    /** A number of 0 .. many - 1, and rarely one beside. */
    private int one(int many) {
        return many == 0 || odds(1, 40) ? to(many + 2) - 1 : random.nextInt(many);
    }

    /** A number of these, and rarely one at or behind their edge. */
    private int edge(int low, int high) {
        if (odds(1, 20)) {
            int[] edges = {low - 1, high + 1, low, high, Integer.MIN_VALUE, Integer.MAX_VALUE, -low, 0};
            return edges[to(7)];
        }
        return low + to(high - low);
    }

    private void due(String call, int got, int want) {
        Checks.due(call, got, want);
    }

    private void run(int calls) {
        begin();
        for (int k = 0; k < calls; k++) {
            call(to(99));
            if (k % 160 == 159) {
                sweep();
            }
        }
    }

    private void begin() {
        int many = 2 + to(6);
        for (int k = 0; k < many; k++) {
            village();
        }
        for (int k = 0; k < many + to(4); k++) {
            road();
        }
        for (int k = 0; k < 4 + to(style == 1 ? 18 : 8); k++) {
            house();
        }
        for (int k = 0; k < 8; k++) {
            loom();
        }
    }

    private void village() {
        int idle = style == 3 ? 40404040 : edge(0, 40) * 1000000 + edge(0, 40) * 10000 + edge(0, 40) * 100 + edge(0, 40);
        int staple = edge(1, 9);
        int cotton = odds(1, 2) ? edge(0, 9999) : edge(0, 60);
        due("village", x.village(idle, staple, cotton), model.village(idle, staple, cotton));
    }

    private void road() {
        int a = one(model.villages.size());
        int b = one(model.villages.size());
        int days = edge(1, 9);
        Checks.due("road", x.road(a, b, days), model.road(a, b, days));
    }

    private void house() {
        int a = one(model.villages.size());
        int what = edge(0, 5) * 1000 + edge(1, 9) * 100 + edge(0, 5) * 10 + edge(1, 9);
        due("house", x.house(a, what), model.house(a, what));
    }

    private void loom() {
        int a = one(model.houses.size());
        int counts = edge(4, odds(1, 2) ? 10 : 60) * 100 + edge(10, 60);
        int hanks = edge(1, 40);
        Checks.due("loom", x.loom(a, counts, hanks), model.loom(a, counts, hanks));
    }

    private void aim() {
        int a = one(model.houses.size());
        int count = odds(1, 2) ? edge(4, 12) : edge(4, 60);
        Checks.due("aim", x.aim(a, count), model.aim(a, count));
    }

    private void coins() {
        int a = one(model.houses.size());
        int n = odds(1, 2) ? edge(-9999, 9999) : to(80);
        due("coins", x.coins(a, n), model.coins(a, n));
    }

    private void go() {
        int n = odds(3, 4) ? to(2) : edge(0, style == 2 ? 26 : 5);
        due("go", x.go(n), model.go(n));
    }

    private void feed(String text) {
        Checks.write(x, text);
        model.text = text;
    }

    private String number(int depth) {
        int k = to(depth > 3 ? 3 : 7);
        if (k < 2) {
            return "" + to(odds(1, 3) ? 9999 : 40);
        }
        if (k < 4) {
            return WORDS[8 + to(12)];
        }
        String sign = WORDS[26 + to(3)];
        String sum = number(depth + 1) + sign + number(depth + 1);
        return k < 6 ? sum : "(" + sum + ")";
    }

    private String condition(int depth) {
        int k = to(depth > 2 ? 2 : 6);
        if (k < 3) {
            return number(2) + WORDS[34 + to(2)] + number(2);
        }
        if (k < 5) {
            return condition(depth + 1) + (k == 3 ? " or " : " and ") + condition(depth + 1);
        }
        return k == 5 ? "not " + condition(depth + 1) : "[" + condition(depth + 1) + "]";
    }

    private String text() {
        StringBuilder text = new StringBuilder();
        for (int clause = 0; clause < 5; clause++) {
            if (odds(1, 3)) {
                String mild = clause == 3 && odds(1, 2) ? " or 1=1" : "";
                String body = clause < 3 ? number(0) : condition(0) + mild;
                text.append(WORDS[clause]).append(odds(1, 2) ? " " : "\n").append(body).append(";");
            }
        }
        return text.substring(0, Math.min(400, text.length()));
    }

    private String spoiled(String text) {
        StringBuilder spoiled = new StringBuilder(text);
        for (int k = 0; k <= to(2); k++) {
            int at = to(spoiled.length());
            String word = WORDS[to(WORDS.length - 1)];
            if (odds(1, 2) && at < spoiled.length()) {
                spoiled.deleteCharAt(at);
            } else {
                spoiled.insert(at, odds(1, 2) ? word : " " + word + " ");
            }
        }
        return spoiled.substring(0, Math.min(400, spoiled.length()));
    }

    private void texts() {
        String text = text();
        if (odds(1, 3)) {
            String open = "not [ ( [ not not [ ( ( ( (".substring(0, 3 + to(24));
            text = text.replaceFirst("may |wage ", "$0 " + open.replace("$", "") + " ");
            text = text.substring(0, Math.min(400, text.length()));
        }
        if (odds(2, 3)) {
            text = spoiled(text);
        }
        feed(text);
        due("fault of '" + text + "'", x.fault(), model.fault());
        due("sheet of '" + text + "'", x.sheet(), model.sheet());
        due("bytes", x.count(6), model.count(6));
    }

    private void sheet() {
        feed(odds(1, 8) ? spoiled(text()) : text());
        due("fault of '" + model.text + "'", x.fault(), model.fault());
        due("sheet", x.sheet(), model.sheet());
        int sheet = odds(4, 5) ? model.sheets.size() - 1 : one(model.sheets.size());
        int week = odds(3, 4) ? model.now + to(1) : edge(0, 155);
        due("force", x.force(sheet, week), model.force(sheet, week));
    }

    private void pay() {
        int a = one(model.houses.size());
        int lot = one(model.lots.size());
        int n = odds(3, 4) ? to(12) : edge(1, 160);
        due("pay", x.pay(a, lot, n), model.pay(a, lot, n));
        int what = edge(0, 4);
        due("due", x.due(a, what), model.due(a, what));
    }

    private void weave() {
        int a = one(model.houses.size());
        int lot = odds(1, 2) ? model.lots.size() - 1 - to(8) : one(model.lots.size());
        int n = odds(2, 3) ? 2 + 2 * to(8) : edge(2, 100);
        due("bar", x.bar(a, lot, n), model.bar(a, lot, n));
        due("weave", x.weave(a, lot, n), model.weave(a, lot, n));
    }

    private void bring() {
        int cloth = odds(1, 2) ? model.cloths.size() - 1 : one(model.cloths.size());
        int a = one(model.villages.size());
        due("bring", x.bring(cloth, a), model.bring(cloth, a));
    }

    private void hands() {
        for (int k = 0; k < 1 + to(3); k++) {
            int lot = one(model.lots.size());
            due("ask", x.ask(lot), model.ask(lot));
        }
        int looms = 0;
        for (int k = 0; k < 1 + to(5); k++) {
            looms |= 1 << (odds(1, 60) ? to(31) : to(Math.max(0, model.houses.size() - 1)));
        }
        for (int what = 0; what < 3; what++) {
            due("hands " + what, x.hands(looms, what), model.hands(looms, what));
        }
        int what = edge(10, 15);
        due("hands " + what, x.hands(looms, what), model.hands(looms, what));
        if (odds(1, 3)) {
            due("clear", x.clear(), model.clear());
        }
    }

    private void store(int kind) {
        int a = one(model.villages.size());
        if (kind == 0) {
            int n = odds(1, 2) ? to(4) : edge(1, 999);
            due("mill", x.mill(a, n), model.mill(a, n));
        } else if (kind == 1) {
            int prices = edge(1, odds(1, 2) ? 20 : 99) * 100 + edge(1, odds(1, 2) ? 20 : 99);
            Checks.due("price", x.price(a, prices), model.price(a, prices));
        } else if (kind == 2) {
            int word = edge(0, 20);
            due("talk", x.talk(a, word), model.talk(a, word));
        } else {
            int n = odds(1, 2) ? to(6) : edge(1, 999);
            due("sold", x.sold(a, n), model.sold(a, n));
        }
    }

    private void asking() {
        int a = one(model.villages.size());
        int b = one(model.villages.size());
        int h = one(model.houses.size());
        due("heard", x.heard(a, b), model.heard(a, b));
        due("far", x.far(a, b), model.far(a, b));
        due("likes", x.likes(h), model.likes(h));
        due("wrong", x.wrong(a, true), model.wrong(a, true));
        due("wrong", x.wrong(a, false), model.wrong(a, false));
        due("look", x.look(), model.look());
    }

    private void gifts() {
        int price = odds(1, 2) ? to(6) : edge(1, 99);
        int h = one(model.houses.size());
        int kind = edge(0, 2);
        due("gift", x.gift(price, h, kind), model.gift(price, h, kind));
        int coins = odds(1, 20) ? edge(0, 800) : to(60);
        for (int what = 0; what < 3; what++) {
            due("best " + what, x.best(coins, what), model.best(coins, what));
        }
        if (odds(1, 12)) {
            due("forget", x.forget(), model.forget());
        }
    }

    private void hunger() {
        int grain = edge(1, odds(1, 2) ? 4 : 99);
        int h = one(model.houses.size());
        due("hungry", x.hungry(grain), model.hungry(grain));
        due("keeps", x.keeps(h, grain), model.keeps(h, grain));
    }

    private void telling() {
        int week = edge(0, Math.max(0, model.now - 1));
        int number = edge(0, 5);
        int mask = odds(1, 2) ? to(31) : random.nextInt();
        due("told", x.told(week, number), model.told(week, number));
        due("check", x.check(week, number, mask), model.check(week, number, mask));
        int clause = edge(0, 4);
        due("why", x.why(clause, week), model.why(clause, week));
    }

    private void bytes() {
        int n = edge(0, 400);
        due("end", x.end(n) ? 1 : 0, model.end(n) ? 1 : 0);
        int[] four = new int[5];
        for (int k = 0; k < 5; k++) {
            four[k] = random.nextInt();
        }
        due("feed", x.feed(four[0], four[1], four[2], four[3], four[4]), model.feed(four));
        due("fault of '" + model.text + "'", x.fault(), model.fault());
    }

    private void call(int k) {
        if (k < 1) {
            village();
        } else if (k < 4) {
            road();
        } else if (k < 6) {
            house();
        } else if (k < 8) {
            loom();
        } else if (k < 13) {
            aim();
        } else if (k < 23) {
            coins();
        } else if (k < 38) {
            go();
        } else if (k < 40) {
            sheet();
        } else if (k < 46) {
            pay();
        } else if (k < 60) {
            weave();
        } else if (k < 66) {
            bring();
        } else if (k < 69) {
            hands();
        } else if (k < 81) {
            store((k - 69) / 3);
        } else if (k < 88) {
            asking();
        } else if (k < 91) {
            gifts();
        } else if (k < 94) {
            hunger();
        } else if (k < 98) {
            telling();
        } else {
            bytes();
        }
    }

    private void sweep() {
        for (int what = -1; what <= 11; what++) {
            due("count(" + what + ")", x.count(what), model.count(what));
            for (int k = -1; k <= 8; k++) {
                due("is(" + k + ", " + what + ")", x.is(k, what), model.is(k, what));
            }
            for (int k = -1; k <= 20; k++) {
                due("has(" + k + ", " + what + ")", x.has(k, what), model.has(k, what));
                due("due(" + k + ", " + what + ")", x.due(k, what), model.due(k, what));
            }
            for (int k = -1; k <= 300; k++) {
                due("lot(" + k + ", " + what + ")", x.lot(k, what), model.lot(k, what));
                due("cloth(" + k + ", " + what + ")", x.cloth(k, what), model.cloth(k, what));
            }
        }
        for (int week = -1; week <= 156; week++) {
            for (int number = -1; number <= 6; number++) {
                due("told(" + week + ", " + number + ")", x.told(week, number), model.told(week, number));
                due("why(" + number + ", " + week + ")", x.why(number, week), model.why(number, week));
            }
        }
        for (int a = -1; a <= 8; a++) {
            for (int b = -1; b <= 8; b++) {
                due("far(" + a + ", " + b + ")", x.far(a, b), model.far(a, b));
                due("heard(" + a + ", " + b + ")", x.heard(a, b), model.heard(a, b));
            }
        }
        due("fault", x.fault(), model.fault());
    }
}
