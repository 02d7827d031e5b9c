import java.util.ArrayList;
import java.util.HashSet;
import java.util.List;
import java.util.Set;

/**
 * A second reading of the document, slow and plain, against which ModelTest holds the class: the
 * fault is found by an Earley recogniser, hands by trying every way, the best heap by letting a copy
 * of the land spin.
 */
final class Model {
    static final int NONE = -1;
    static final int VOID = -2147483648;

    static final class Village {
        int[] idle = new int[4];
        int staple, cotton, stamped, plain, mill, hand = 20, millPrice = 10, word, takings, sold;
        int stampedEver, stampedSold, seasonSold, lastSold, came;
        List<Integer> began = new ArrayList<>();
    }

    static final class House {
        int village, wheels, skill, caste, heads, purse, aim = 10, bare, hands, mills;
        int from, to, loom, woven, owed, paid, others, can;
    }

    static final class Lot {
        int house, week, count, strength, hanks, left;
    }

    static final class Cloth {
        int lot, house, week, yards, store = NONE;
        boolean stamped;
    }

    record Token(String kind, String text, int place) { }

    record Force(int sheet, int week) { }

    int now, crown, paidAll, wovenAll, spunAll;
    List<Village> villages = new ArrayList<>();
    List<House> houses = new ArrayList<>();
    List<Lot> lots = new ArrayList<>();
    List<Cloth> cloths = new ArrayList<>();
    List<Integer> asked = new ArrayList<>();
    List<int[]> gifts = new ArrayList<>();
    List<String> sheets = new ArrayList<>();
    List<Force> forces = new ArrayList<>();
    List<int[]> weeks = new ArrayList<>();
    int[][] roads = new int[8][8];
    String text = "";

    static boolean in(int n, int low, int high) {
        return low <= n && n <= high;
    }

    boolean isVillage(int n) {
        return in(n, 0, villages.size() - 1);
    }

    boolean isHouse(int n) {
        return in(n, 0, houses.size() - 1);
    }

    boolean isLot(int n) {
        return in(n, 0, lots.size() - 1);
    }

    int season() {
        return (now / 13) % 4;
    }

    int village(int idle, int staple, int cotton) {
        Village v = new Village();
        int rest = idle;
        for (int k = 3; k > 0; k--) {
            v.idle[k] = rest % 100;
            rest /= 100;
        }
        v.idle[0] = rest;
        for (int i : v.idle) {
            if (!in(i, 0, 40)) {
                return NONE;
            }
        }
        if (idle < 0 || !in(staple, 1, 9) || !in(cotton, 0, 9999) || villages.size() == 8) {
            return NONE;
        }
        v.staple = staple;
        v.cotton = cotton;
        v.came = now;
        for (int k = 0; k <= now; k++) {
            v.began.add(10);
        }
        villages.add(v);
        return villages.size() - 1;
    }

    boolean road(int a, int b, int days) {
        if (!isVillage(a) || !isVillage(b) || a == b || !in(days, 1, 9)) {
            return false;
        }
        roads[a][b] = days;
        roads[b][a] = days;
        return true;
    }

    int far(int a, int b) {
        if (!isVillage(a) || !isVillage(b)) {
            return NONE;
        }
        int[] best = new int[8];
        java.util.Arrays.fill(best, 999);
        best[a] = 0;
        for (int round = 0; round < 8; round++) {
            for (int p = 0; p < 8; p++) {
                for (int q = 0; q < 8; q++) {
                    if (roads[p][q] > 0) {
                        best[q] = Math.min(best[q], best[p] + roads[p][q]);
                    }
                }
            }
        }
        return best[b] >= 999 ? NONE : best[b];
    }

    int house(int village, int what) {
        if (!isVillage(village) || houses.size() == 20 || now == 156 || !in(what, 0, 9999)) {
            return NONE;
        }
        House h = new House();
        h.village = village;
        String digits = String.format("%04d", what);
        h.wheels = digits.charAt(0) - '0';
        h.skill = digits.charAt(1) - '0';
        h.caste = digits.charAt(2) - '0';
        h.heads = digits.charAt(3) - '0';
        if (h.wheels > 5 || h.skill < 1 || h.caste > 5 || h.heads < 1) {
            return NONE;
        }
        houses.add(h);
        return houses.size() - 1;
    }

    boolean loom(int house, int counts, int hanks) {
        if (!isHouse(house) || houses.get(house).loom > 0 || !in(counts, 0, 9999) || !in(hanks, 1, 40)) {
            return false;
        }
        int from = counts / 100;
        int to = counts - from * 100;
        if (!in(from, 4, 60) || !in(to, 4, 60) || from > to) {
            return false;
        }
        House h = houses.get(house);
        h.from = from;
        h.to = to;
        h.loom = hanks;
        return true;
    }

    boolean aim(int house, int count) {
        if (!isHouse(house) || !in(count, 4, 60)) {
            return false;
        }
        houses.get(house).aim = count;
        return true;
    }

    int coins(int house, int n) {
        if (!isHouse(house) || !in(n, -9999, 9999)) {
            return VOID;
        }
        return houses.get(house).purse += n;
    }

    int cotton(int village, int n) {
        if (!isVillage(village) || !in(n, 1, 999) || villages.get(village).cotton + n > 9999) {
            return NONE;
        }
        return villages.get(village).cotton += n;
    }

    int go(int n) {
        if (!in(n, 0, 26)) {
            return NONE;
        }
        for (int k = 0; k < n; k++) {
            if (now < 156) {
                week();
            }
        }
        return now;
    }

    int spins(House h, int wheels, int skill, int cotton) {
        int hours = wheels * villages.get(h.village).idle[season()];
        return Math.min(hours * (10 + skill) / (h.aim + 20), cotton * h.aim);
    }

    void week() {
        int spun = 0;
        for (int k = 0; k < houses.size(); k++) {
            House h = houses.get(k);
            Village v = villages.get(h.village);
            h.can += h.wheels * v.idle[season()] * (10 + h.skill) / 24;
            int hanks = spins(h, h.wheels, h.skill, v.cotton);
            if (hanks == 0 || lots.size() == 300) {
                continue;
            }
            v.cotton -= hanks / h.aim + (hanks % h.aim == 0 ? 0 : 1);
            Lot lot = new Lot();
            lot.house = k;
            lot.week = now;
            lot.count = h.aim;
            lot.strength = strength(h);
            lot.hanks = hanks;
            lot.left = hanks;
            lots.add(lot);
            spun += hanks;
        }
        for (House h : houses) {
            buy(h);
        }
        int[] before = new int[villages.size()];
        for (int k = 0; k < before.length; k++) {
            before[k] = villages.get(k).word;
        }
        for (int k = 0; k < before.length; k++) {
            int word = before[k] - 1;
            for (int o = 0; o < before.length; o++) {
                if (roads[k][o] > 0) {
                    word = Math.max(word, before[o] - 2);
                }
            }
            villages.get(k).word = Math.max(0, word);
        }
        if ((now + 1) % 13 == 0) {
            endSeason();
        }
        spunAll += spun;
        int cotton = 0;
        for (Village v : villages) {
            cotton += v.cotton;
        }
        int left = 0;
        for (Lot lot : lots) {
            left += lot.left;
        }
        weeks.add(new int[] {cotton, spun, left, paidAll, wovenAll, spunAll});
        now++;
        for (Village v : villages) {
            v.began.add(v.millPrice);
        }
        for (House h : houses) {
            h.woven = 0;
        }
    }

    void endSeason() {
        for (House h : houses) {
            if (h.wheels > 0) {
                h.owed += Math.max(0, answer(0, h, null, null, 0, null));
            }
        }
        for (Village v : villages) {
            v.millPrice += v.seasonSold < v.lastSold ? -1 : 1;
            v.millPrice = Math.min(99, Math.max(1, v.millPrice));
            v.lastSold = v.seasonSold;
            v.seasonSold = 0;
        }
    }

    int strength(House h) {
        return Math.max(0, 20 * villages.get(h.village).staple + 3 * h.skill - 2 * h.aim);
    }

    int duty(Village v) {
        return Math.max(0, answer(2, null, null, null, 0, v));
    }

    int liking(House h) {
        Village v = villages.get(h.village);
        int duty = duty(v);
        boolean hand = v.stamped + v.plain > 0 && h.purse >= v.hand;
        boolean mill = v.mill > 0 && h.purse >= v.millPrice + duty;
        boolean handFirst = v.hand <= v.millPrice + duty + v.word;
        if (handFirst) {
            return hand ? 0 : mill ? 1 : NONE;
        }
        return mill ? 1 : hand ? 0 : NONE;
    }

    void buy(House h) {
        if ((now + h.heads) % 4 != 0) {
            return;
        }
        Village v = villages.get(h.village);
        int choice = liking(h);
        if (choice == NONE) {
            h.bare++;
        } else if (choice == 0) {
            if (v.stamped > 0) {
                v.stamped--;
                v.stampedSold++;
            } else {
                v.plain--;
            }
            h.purse -= v.hand;
            v.takings += v.hand;
            h.hands++;
        } else {
            int duty = duty(v);
            v.mill--;
            v.seasonSold++;
            h.purse -= v.millPrice + duty;
            v.takings += v.millPrice;
            crown += duty;
            h.mills++;
        }
    }

    int lot(int lot, int what) {
        if (!isLot(lot) || !in(what, 0, 5)) {
            return NONE;
        }
        Lot l = lots.get(lot);
        return new int[] {l.house, l.week, l.count, l.strength, l.hanks, l.left}[what];
    }

    // The text

    int feed(int... numbers) {
        if (text.length() + 20 > 400) {
            return NONE;
        }
        for (int n : numbers) {
            text += "" + (char) (n >> 24 & 255) + (char) (n >> 16 & 255) + (char) (n >> 8 & 255) + (char) (n & 255);
        }
        return text.length();
    }

    boolean end(int n) {
        if (!in(n, 0, text.length())) {
            return false;
        }
        text = text.substring(0, n);
        return true;
    }

    static final Set<String> NAMES = Set.of("week", "season", "heads", "wheels", "skill", "caste", "other", "count",
            "strength", "hanks", "idle", "far", "price");
    static final List<String> CLAUSES = List.of("owe", "wage", "duty", "may", "stamp");

    /** Tokens: kind is the word or sign itself, NAME, NUMBER or BAD. */
    static List<Token> tokens(String text) {
        List<Token> all = new ArrayList<>();
        java.util.regex.Matcher m = java.util.regex.Pattern.compile("[a-z]+|[0-9]+|[^ \n]", java.util.regex.Pattern.DOTALL)
                .matcher(text);
        while (m.find()) {
            String t = m.group();
            String kind = t;
            if (Character.isDigit(t.charAt(0))) {
                kind = new java.math.BigInteger(t).compareTo(java.math.BigInteger.valueOf(9999)) > 0 ? "BAD" : "NUMBER";
            } else if (NAMES.contains(t)) {
                kind = "NAME";
            } else if (t.length() == 1 && "+-*/()[]<>=;".indexOf(t.charAt(0)) < 0) {
                kind = "BAD";
            }
            all.add(new Token(kind, t, m.start()));
        }
        return all;
    }

    record Rule(String left, List<String> right) { }

    record Item(Rule rule, int dot, int from) { }

    static final List<Rule> GRAMMAR = grammar();

    static void rule(List<Rule> all, String left, String right) {
        all.add(new Rule(left, right.isEmpty() ? List.of() : List.of(right.split(" "))));
    }

    static List<Rule> grammar() {
        List<Rule> all = new ArrayList<>();
        rule(all, "S", "");
        rule(all, "S", "S Z");
        for (String c : List.of("owe", "wage", "duty")) {
            rule(all, "Z", c + " E0 ;");
        }
        for (String c : List.of("may", "stamp")) {
            rule(all, "Z", c + " C0 ;");
        }
        for (int d = 0; d <= 8; d++) {
            int deeper = d + 1;
            rule(all, "E" + d, "T" + d);
            rule(all, "E" + d, "E" + d + " + T" + d);
            rule(all, "E" + d, "E" + d + " - T" + d);
            rule(all, "T" + d, "F" + d);
            rule(all, "T" + d, "T" + d + " * F" + d);
            rule(all, "T" + d, "T" + d + " / F" + d);
            rule(all, "F" + d, "NUMBER");
            rule(all, "F" + d, "NAME");
            rule(all, "C" + d, "A" + d);
            rule(all, "C" + d, "C" + d + " or A" + d);
            rule(all, "A" + d, "B" + d);
            rule(all, "A" + d, "A" + d + " and B" + d);
            for (String sign : List.of("<", ">", "=")) {
                rule(all, "B" + d, "E" + d + " " + sign + " E" + d);
            }
            if (d < 8) {
                rule(all, "F" + d, "( E" + deeper + " )");
                rule(all, "B" + d, "not B" + deeper);
                rule(all, "B" + d, "[ C" + deeper + " ]");
            }
        }
        return all;
    }

    int fault() {
        List<Token> tokens = tokens(text);
        Set<String> had = new HashSet<>();
        List<List<Item>> chart = new ArrayList<>();
        chart.add(new ArrayList<>());
        for (Rule r : GRAMMAR) {
            if (r.left.equals("S")) {
                chart.get(0).add(new Item(r, 0, 0));
            }
        }
        close(chart, 0);
        for (int k = 0; k < tokens.size(); k++) {
            Token t = tokens.get(k);
            List<Item> next = new ArrayList<>();
            for (Item i : chart.get(k)) {
                if (i.dot < i.rule.right.size() && i.rule.right.get(i.dot).equals(t.kind)) {
                    next.add(new Item(i.rule, i.dot + 1, i.from));
                }
            }
            if (next.isEmpty() || CLAUSES.contains(t.kind) && !had.add(t.kind)) {
                return t.place;
            }
            chart.add(next);
            close(chart, k + 1);
        }
        for (Item i : chart.get(tokens.size())) {
            if (i.rule.left.equals("S") && i.dot == i.rule.right.size() && i.from == 0) {
                return NONE;
            }
        }
        return text.length();
    }

    static void close(List<List<Item>> chart, int at) {
        List<Item> items = chart.get(at);
        Set<Item> seen = new HashSet<>(items);
        for (int k = 0; k < items.size(); k++) {
            Item i = items.get(k);
            List<Item> more = new ArrayList<>();
            if (i.dot < i.rule.right.size()) {
                String wanted = i.rule.right.get(i.dot);
                for (Rule r : GRAMMAR) {
                    if (r.left.equals(wanted)) {
                        more.add(new Item(r, 0, at));
                    }
                }
                if (wanted.equals("S")) {
                    more.add(new Item(i.rule, i.dot + 1, i.from));
                }
            } else {
                for (Item o : List.copyOf(chart.get(i.from))) {
                    if (o.dot < o.rule.right.size() && o.rule.right.get(o.dot).equals(i.rule.left)) {
                        more.add(new Item(o.rule, o.dot + 1, o.from));
                    }
                }
            }
            for (Item m : more) {
                if (seen.add(m)) {
                    items.add(m);
                }
            }
        }
    }

    int sheet() {
        if (fault() != NONE || sheets.size() == 8) {
            return NONE;
        }
        sheets.add(text);
        text = "";
        return sheets.size() - 1;
    }

    int force(int sheet, int week) {
        if (!in(sheet, 0, sheets.size() - 1) || !in(week, now, 155) || forces.size() == 12) {
            return NONE;
        }
        forces.add(new Force(sheet, week));
        return forces.size();
    }

    /** What stands behind the word of a CLAUSE, up to its ; or null. */
    static List<Token> clause(String sheet, int clause) {
        List<Token> all = tokens(sheet);
        for (int k = 0; k < all.size(); k++) {
            if (all.get(k).text.equals(CLAUSES.get(clause))) {
                int to = k;
                while (!all.get(to).text.equals(";")) {
                    to++;
                }
                return new ArrayList<>(all.subList(k + 1, to));
            }
        }
        return null;
    }

    int why(int clause, int week) {
        return in(clause, 0, 4) && in(week, 0, 155) ? counts(clause, week) : NONE;
    }

    int counts(int clause, int week) {
        for (int since = week; since >= 0; since--) {
            for (int k = forces.size() - 1; k >= 0; k--) {
                Force f = forces.get(k);
                if (f.week == since && clause(sheets.get(f.sheet), clause) != null) {
                    return f.sheet;
                }
            }
        }
        return NONE;
    }

    // Answers, by splitting at the last sign that binds least

    int answer(int clause, House asked, House weaver, Lot lot, int hanks, Village store) {
        int sheet = counts(clause, now);
        if (sheet == NONE) {
            return clause == 0 || clause == 2 ? 0 : 1;
        }
        java.util.Map<String, Long> names = new java.util.HashMap<>();
        names.put("week", (long) now);
        names.put("season", (long) season());
        House h = lot == null ? asked : houses.get(lot.house);
        if (h != null) {
            names.put("heads", (long) h.heads);
            names.put("wheels", (long) h.wheels);
            names.put("skill", (long) h.skill);
            names.put("caste", (long) h.caste);
            names.put("idle", (long) villages.get(h.village).idle[season()]);
        }
        if (lot != null) {
            names.put("other", (long) weaver.caste);
            names.put("count", (long) lot.count);
            names.put("strength", (long) lot.strength);
            names.put("hanks", (long) hanks);
            names.put("far", (long) far(h.village, weaver.village));
        }
        if (store != null) {
            names.put("price", (long) store.millPrice);
        }
        List<Token> body = clause(sheets.get(sheet), clause);
        return (int) (clause < 3 ? number(body, names) : holds(body, names) ? 1 : 0);
    }

    /** The place of the last token of these that stands outside ( ) and [ ]; NONE. */
    static int last(List<Token> body, String... signs) {
        int depth = 0;
        for (int k = body.size() - 1; k >= 0; k--) {
            String t = body.get(k).text;
            if (t.equals(")") || t.equals("]")) {
                depth++;
            } else if (t.equals("(") || t.equals("[")) {
                depth--;
            } else if (depth == 0 && List.of(signs).contains(t)) {
                return k;
            }
        }
        return NONE;
    }

    static boolean holds(List<Token> body, java.util.Map<String, Long> names) {
        int at = last(body, "or");
        if (at >= 0) {
            boolean left = holds(body.subList(0, at), names);
            return holds(body.subList(at + 1, body.size()), names) || left;
        }
        at = last(body, "and");
        if (at >= 0) {
            boolean left = holds(body.subList(0, at), names);
            return holds(body.subList(at + 1, body.size()), names) && left;
        }
        if (body.get(0).text.equals("not")) {
            return !holds(body.subList(1, body.size()), names);
        }
        if (body.get(0).text.equals("[")) {
            return holds(body.subList(1, body.size() - 1), names);
        }
        at = last(body, "<", ">", "=");
        long left = number(body.subList(0, at), names);
        long right = number(body.subList(at + 1, body.size()), names);
        String sign = body.get(at).text;
        return sign.equals("<") ? left < right : sign.equals(">") ? left > right : left == right;
    }

    static long number(List<Token> body, java.util.Map<String, Long> names) {
        int at = last(body, "+", "-");
        if (at < 0) {
            at = last(body, "*", "/");
        }
        if (at >= 0) {
            long left = number(body.subList(0, at), names);
            long right = number(body.subList(at + 1, body.size()), names);
            switch (body.get(at).text) {
                case "+": return clamp(left + right);
                case "-": return clamp(left - right);
                case "*": return clamp(left * right);
                default: return right == 0 ? 0 : left / right;
            }
        }
        Token t = body.get(0);
        if (t.text.equals("(")) {
            return number(body.subList(1, body.size() - 1), names);
        }
        return t.kind.equals("NUMBER") ? Long.parseLong(t.text) : names.getOrDefault(t.text, 0L);
    }

    static long clamp(long n) {
        return n > 1000000 ? 1000000 : n < -1000000 ? -1000000 : n;
    }

    // The club and weaving

    int pay(int house, int lot, int n) {
        if (!isHouse(house) || !isLot(lot) || !in(n, 1, lots.get(lot).left)) {
            return VOID;
        }
        House h = houses.get(house);
        lots.get(lot).left -= n;
        h.paid += n;
        h.others += lots.get(lot).house == house ? 0 : n;
        paidAll += n;
        return h.owed - h.paid;
    }

    int due(int house, int what) {
        if (!isHouse(house) || !in(what, 0, 4)) {
            return VOID;
        }
        House h = houses.get(house);
        return new int[] {h.owed - h.paid, h.paid, h.can, Math.max(0, h.paid - h.can), h.others}[what];
    }

    int barred(House w, Lot l, int n) {
        if (w.loom == 0) {
            return 1;
        }
        if (l.count < w.from || l.count > w.to) {
            return 2;
        }
        if (l.strength < l.count + 30) {
            return 3;
        }
        if (far(houses.get(l.house).village, w.village) == NONE) {
            return 4;
        }
        if (answer(3, null, w, l, n, null) == 0) {
            return 5;
        }
        if (l.left < n) {
            return 6;
        }
        return w.woven + n > w.loom ? 7 : 0;
    }

    int bar(int house, int lot, int n) {
        if (!isHouse(house) || !isLot(lot) || n < 2 || n > 100 || n % 2 != 0) {
            return NONE;
        }
        return barred(houses.get(house), lots.get(lot), n);
    }

    int weave(int house, int lot, int n) {
        if (bar(house, lot, n) != 0 || cloths.size() == 200 || now == 156) {
            return NONE;
        }
        House w = houses.get(house);
        Lot l = lots.get(lot);
        Cloth c = new Cloth();
        c.lot = lot;
        c.house = house;
        c.week = now;
        c.yards = n / 2;
        c.stamped = answer(4, null, w, l, n, null) != 0;
        int wage = Math.max(0, answer(1, null, w, l, n, null));
        houses.get(l.house).purse -= wage;
        w.purse += wage;
        w.woven += n;
        l.left -= n;
        wovenAll += n;
        cloths.add(c);
        return cloths.size() - 1;
    }

    int cloth(int cloth, int what) {
        if (!in(cloth, 0, cloths.size() - 1) || !in(what, 0, 7)) {
            return NONE;
        }
        Cloth c = cloths.get(cloth);
        Lot l = lots.get(c.lot);
        return new int[] {c.lot, c.house, c.week, c.yards, c.stamped ? 1 : 0, l.house, l.week, c.store}[what];
    }

    int ask(int lot) {
        if (!isLot(lot) || asked.contains(lot) || asked.size() == 6) {
            return NONE;
        }
        asked.add(lot);
        return asked.size();
    }

    int clear() {
        int were = asked.size();
        asked.clear();
        return were;
    }

    /** Every way there is, in the document's order; a later one counts if it is better. */
    int hands(int looms, int what) {
        List<Integer> weavers = new ArrayList<>();
        for (int k = 0; k < 32; k++) {
            if ((looms >>> k & 1) == 1) {
                if (!isHouse(k)) {
                    return NONE;
                }
                weavers.add(k);
            }
        }
        if (!in(weavers.size(), 1, 6) || asked.isEmpty() || !(in(what, 0, 2) || in(what - 10, 0, asked.size() - 1))) {
            return NONE;
        }
        int base = weavers.size() + 1;
        boolean[][] can = new boolean[asked.size()][base];
        int[][] days = new int[asked.size()][base];
        for (int k = 0; k < asked.size(); k++) {
            Lot l = lots.get(asked.get(k));
            can[k][base - 1] = true;
            for (int w = 0; w + 1 < base; w++) {
                House h = houses.get(weavers.get(w));
                int n = l.left / 2 * 2;
                int bar = n < 2 ? 1 : barred(h, l, n);
                can[k][w] = bar == 0 || bar == 7;
                days[k][w] = far(houses.get(l.house).village, h.village);
            }
        }
        int[] best = null;
        int[] way = new int[asked.size()];
        while (true) {
            int[] worth = worth(way, can, days, weavers);
            if (worth != null && (best == null || better(worth, best))) {
                best = worth;
            }
            int k = way.length - 1;
            while (k >= 0 && way[k] == base - 1) {
                way[k--] = 0;
            }
            if (k < 0) {
                break;
            }
            way[k]++;
        }
        return what < 3 ? best[what] : best[what - 7];
    }

    int[] worth(int[] way, boolean[][] can, int[][] days, List<Integer> weavers) {
        int[] worth = new int[3 + way.length];
        int[] got = new int[weavers.size()];
        for (int k = 0; k < way.length; k++) {
            if (!can[k][way[k]]) {
                return null;
            }
            worth[3 + k] = NONE;
            if (way[k] < weavers.size()) {
                int n = lots.get(asked.get(k)).left / 2 * 2;
                worth[0] += n;
                worth[1] += days[k][way[k]];
                got[way[k]] += n;
                worth[3 + k] = weavers.get(way[k]);
            }
        }
        for (int w = 0; w < got.length; w++) {
            int cap = houses.get(weavers.get(w)).loom;
            if (got[w] > 0) {
                worth[2] = Math.max(worth[2], got[w] / cap + (got[w] % cap > 0 ? 1 : 0));
            }
        }
        return worth;
    }

    static boolean better(int[] a, int[] b) {
        if (a[0] != b[0]) {
            return a[0] > b[0];
        }
        return a[1] != b[1] ? a[1] < b[1] : a[2] < b[2];
    }

    // Stores

    int bring(int cloth, int village) {
        if (!in(cloth, 0, cloths.size() - 1) || !isVillage(village)) {
            return NONE;
        }
        Cloth c = cloths.get(cloth);
        Village v = villages.get(village);
        if (c.store != NONE || far(houses.get(c.house).village, village) == NONE) {
            return NONE;
        }
        c.store = village;
        if (c.stamped) {
            v.stamped += c.yards;
            v.stampedEver += c.yards;
        } else {
            v.plain += c.yards;
        }
        return v.stamped + v.plain;
    }

    int mill(int village, int n) {
        if (!isVillage(village) || !in(n, 1, 999) || villages.get(village).mill + n > 9999) {
            return NONE;
        }
        return villages.get(village).mill += n;
    }

    boolean price(int village, int prices) {
        if (!isVillage(village) || !in(prices, 101, 9999) || prices % 100 == 0) {
            return false;
        }
        villages.get(village).hand = prices / 100;
        villages.get(village).millPrice = prices % 100;
        return true;
    }

    int talk(int village, int word) {
        if (!isVillage(village) || !in(word, 0, 20)) {
            return NONE;
        }
        return villages.get(village).word = word;
    }

    int heard(int village, int other) {
        int far = far(village, other);
        if (far == NONE || now == 156) {
            return NONE;
        }
        int week = now;
        for (int days = far; days > 0; days -= 7) {
            week--;
        }
        return villages.get(other).began.get(Math.max(0, week));
    }

    int likes(int house) {
        return isHouse(house) ? liking(houses.get(house)) : NONE;
    }

    int sold(int village, int n) {
        if (!isVillage(village) || !in(n, 1, 999) || villages.get(village).sold + n > 9999) {
            return NONE;
        }
        return villages.get(village).sold += n;
    }

    int wrong(int village, boolean most) {
        if (!isVillage(village)) {
            return NONE;
        }
        Village v = villages.get(village);
        return Math.max(0, v.sold - (most ? v.stampedSold : v.stampedEver));
    }

    int look() {
        int best = NONE;
        for (int k = villages.size() - 1; k >= 0; k--) {
            int gap = wrong(k, true) - wrong(k, false);
            if (gap > 0 && (best == NONE || gap >= wrong(best, true) - wrong(best, false))) {
                best = k;
            }
        }
        return best;
    }

    // Gifts and hunger

    int gift(int price, int house, int kind) {
        if (!isHouse(house) || !in(price, 1, 99) || !in(kind, 0, 2) || gifts.size() == 8) {
            return NONE;
        }
        gifts.add(new int[] {price, house, kind});
        return gifts.size() - 1;
    }

    int forget() {
        int were = gifts.size();
        gifts.clear();
        return were;
    }

    int best(int coins, int what) {
        if (coins < 0 || !in(what, 0, 2) || now == 156) {
            return NONE;
        }
        int[] best = {0, NONE, 0};
        for (int heap = (1 << gifts.size()) - 1; heap >= 0; heap--) {
            int[] tried = tried(heap);
            if (tried[2] <= coins && (tried[1] > best[1] || tried[1] == best[1] && tried[2] <= best[2])) {
                best = tried;
            }
        }
        return best[what];
    }

    int[] tried(int heap) {
        int[] wheels = houses.stream().mapToInt(h -> h.wheels).toArray();
        int[] skill = houses.stream().mapToInt(h -> h.skill).toArray();
        int[] cotton = villages.stream().mapToInt(v -> v.cotton).toArray();
        int cost = 0;
        for (int k = 0; k < gifts.size(); k++) {
            if ((heap >> k) % 2 == 1) {
                int[] gift = gifts.get(k);
                int village = houses.get(gift[1]).village;
                cost += gift[0];
                if (gift[2] == 0 && wheels[gift[1]] < 5) {
                    wheels[gift[1]]++;
                } else if (gift[2] == 1 && skill[gift[1]] < 9) {
                    skill[gift[1]]++;
                } else if (gift[2] == 2) {
                    cotton[village] = Math.min(9999, cotton[village] + 5);
                }
            }
        }
        int lotsThen = lots.size();
        int all = 0;
        for (int k = 0; k < houses.size(); k++) {
            House h = houses.get(k);
            int hanks = spins(h, wheels[k], skill[k], cotton[h.village]);
            if (hanks > 0 && lotsThen < 300) {
                lotsThen++;
                all += hanks;
                cotton[h.village] -= (int) Math.ceil((double) hanks / h.aim);
            }
        }
        return new int[] {heap, all, cost};
    }

    int hungry(int grain) {
        if (!in(grain, 1, 99)) {
            return NONE;
        }
        int bits = 0;
        for (int k = 0; k < houses.size(); k++) {
            bits += houses.get(k).purse < houses.get(k).heads * grain ? 1 << k : 0;
        }
        return bits;
    }

    int keeps(int house, int grain) {
        if (!isHouse(house) || !in(grain, 1, 99) || now == 156) {
            return NONE;
        }
        House h = houses.get(house);
        Lot lot = new Lot();
        lot.house = house;
        lot.count = h.aim;
        lot.strength = strength(h);
        int hanks = lots.size() == 300 ? 0 : spins(h, h.wheels, h.skill, villages.get(h.village).cotton);
        return Math.max(0, answer(1, null, h, lot, hanks, null)) / (h.heads * grain);
    }

    // Weeks told and what stands

    int told(int week, int number) {
        return in(week, 0, weeks.size() - 1) && in(number, 0, 5) ? weeks.get(week)[number] : NONE;
    }

    int check(int week, int number, int mask) {
        if (!in(week, 0, weeks.size() - 1) || !in(number, 0, 5)) {
            return NONE;
        }
        int[] row = weeks.get(week).clone();
        row[number] = (row[number] | mask) & ~(row[number] & mask);
        long ahead = week == 0 ? 0 : weeks.get(week - 1)[5];
        if ((long) row[2] + row[3] + row[4] != row[5]) {
            return 1;
        }
        return row[5] != ahead + row[1] ? 2 : 0;
    }

    int is(int village, int what) {
        if (!isVillage(village) || !in(what, 0, 10)) {
            return NONE;
        }
        Village v = villages.get(village);
        return new int[] {v.cotton, v.stamped, v.plain, v.mill, v.hand, v.millPrice, v.word, v.takings, v.sold,
            v.stampedSold, v.seasonSold}[what];
    }

    int has(int house, int what) {
        if (!isHouse(house) || !in(what, 0, 10)) {
            return VOID;
        }
        House h = houses.get(house);
        return new int[] {h.village, h.wheels, h.skill, h.caste, h.heads, h.purse, h.aim, h.bare, h.hands, h.mills,
            h.loom > 0 ? h.woven : NONE}[what];
    }

    int count(int what) {
        return in(what, 0, 9) ? new int[] {now, villages.size(), houses.size(), lots.size(), sheets.size(),
            cloths.size(), text.length(), asked.size(), gifts.size(), crown}[what] : NONE;
    }
}
