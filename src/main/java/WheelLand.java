import java.util.ArrayList;
import java.util.Arrays;

/** A land of wheels: villages, houses that spin and weave, stores, texts in force and weeks told. */
public final class WheelLand {
    public static final int NONE = -1;
    public static final int VOID = -2147483648;

    private static final int WEEKS = 156;
    private static final int SEASON_WEEKS = 13;
    private static final int SEASONS = 4;
    private static final int MOST_GONE = 26;

    private static final int MOST_VILLAGES = 8;
    private static final int MOST_HOUSES = 20;
    private static final int MOST_LOTS = 300;
    private static final int MOST_CLOTHS = 200;
    private static final int MOST_BYTES = 400;
    private static final int MOST_SHEETS = 8;
    private static final int MOST_FORCES = 12;
    private static final int MOST_HANDS = 6;
    private static final int MOST_GIFTS = 8;

    private static final int MOST_IDLE = 40;
    private static final int MOST_DAYS = 9;
    private static final int MOST_WHEELS = 5;
    private static final int MOST_SKILL = 9;
    private static final int MOST_CASTE = 5;
    private static final int LEAST_COUNT = 4;
    private static final int MOST_COUNT = 60;
    private static final int MOST_LOOM = 40;
    private static final int MOST_WOVEN = 100;
    private static final int MOST_KEPT = 9999;
    private static final int MOST_TOLD = 999;
    private static final int MOST_PRICE = 99;
    private static final int MOST_WORD = 20;
    private static final int FIRST_HAND_PRICE = 20;
    private static final int FIRST_MILL_PRICE = 10;

    private static final int OWE = 0;
    private static final int WAGE = 1;
    private static final int DUTY = 2;
    private static final int MAY = 3;
    private static final int STAMP = 4;
    private static final int CLAUSES = 5;

    private static final int HAND = 0;
    private static final int MILL = 1;

    private int now;
    private int crown;
    private final ArrayList<Village> villages = new ArrayList<>();
    private final ArrayList<House> houses = new ArrayList<>();
    private final ArrayList<Lot> lots = new ArrayList<>();
    private final ArrayList<Cloth> cloths = new ArrayList<>();
    private final Roads roads = new Roads();
    private final Reader reader = new Reader();
    private final Rules rules = new Rules();
    private final Handwork handwork = new Handwork();
    private final Gifts gifts = new Gifts();
    private final Ledger ledger = new Ledger();
    private final int[] wordsBefore = new int[MOST_VILLAGES];

    public WheelLand() {
    }

    // Villages, roads and houses

    public int village(int idle, int staple, int cotton) {
        if (villages.size() >= MOST_VILLAGES || !Village.idleCanBe(idle)
                || outside(staple, 1, 9) || outside(cotton, 0, MOST_KEPT)) {
            return NONE;
        }
        villages.add(new Village(villages.size(), idle, staple, cotton));
        return villages.size() - 1;
    }

    public boolean road(int one, int other, int days) {
        if (villageAt(one) == null || villageAt(other) == null || one == other
                || outside(days, 1, MOST_DAYS)) {
            return false;
        }
        roads.lay(one, other, days);
        return true;
    }

    public int far(int one, int other) {
        return daysBetween(villageAt(one), villageAt(other));
    }

    public int house(int village, int what) {
        Village home = villageAt(village);
        if (home == null || houses.size() >= MOST_HOUSES || now >= WEEKS || !House.canBe(what)) {
            return NONE;
        }
        houses.add(new House(houses.size(), home, what));
        return houses.size() - 1;
    }

    public boolean loom(int house, int counts, int hanks) {
        House owner = houseAt(house);
        int from = counts / 100;
        int to = counts % 100;
        if (owner == null || owner.hasLoom() || from < LEAST_COUNT || from > to || to > MOST_COUNT
                || outside(hanks, 1, MOST_LOOM)) {
            return false;
        }
        owner.loomFrom = from;
        owner.loomTo = to;
        owner.loomHanks = hanks;
        return true;
    }

    public boolean aim(int house, int count) {
        House spinner = houseAt(house);
        if (spinner == null || outside(count, LEAST_COUNT, MOST_COUNT)) {
            return false;
        }
        spinner.aim = count;
        return true;
    }

    public int coins(int house, int n) {
        House owner = houseAt(house);
        if (owner == null || outside(n, -MOST_KEPT, MOST_KEPT)) {
            return VOID;
        }
        owner.purse += n;
        return owner.purse;
    }

    public int cotton(int village, int n) {
        Village home = villageAt(village);
        if (home == null || outside(n, 1, MOST_TOLD) || home.cotton + n > MOST_KEPT) {
            return NONE;
        }
        home.cotton += n;
        return home.cotton;
    }

    // Weeks and lots

    public int go(int n) {
        if (outside(n, 0, MOST_GONE)) {
            return NONE;
        }
        for (int k = 0; k < n && now < WEEKS; k++) {
            endWeek();
        }
        return now;
    }

    public int lot(int lot, int what) {
        Lot yarn = lotAt(lot);
        if (yarn == null) {
            return NONE;
        }
        switch (what) {
            case 0: return yarn.spinner.number;
            case 1: return yarn.week;
            case 2: return yarn.count;
            case 3: return yarn.strength;
            case 4: return yarn.hanks;
            case 5: return yarn.left;
            default: return NONE;
        }
    }

    // Texts, sheets and what is in force

    public int feed(int a, int b, int c, int d, int e) {
        if (!reader.hasRoomFor(20)) {
            return NONE;
        }
        reader.append(a);
        reader.append(b);
        reader.append(c);
        reader.append(d);
        reader.append(e);
        return reader.size;
    }

    public boolean end(int n) {
        if (outside(n, 0, reader.size)) {
            return false;
        }
        reader.size = n;
        return true;
    }

    public int fault() {
        return reader.read();
    }

    public int sheet() {
        if (rules.sheets.size() >= MOST_SHEETS || reader.read() != NONE) {
            return NONE;
        }
        rules.sheets.add(reader.asSheet(rules.sheets.size()));
        reader.size = 0;
        return rules.sheets.size() - 1;
    }

    public int force(int sheet, int week) {
        if (sheet < 0 || sheet >= rules.sheets.size() || outside(week, now, WEEKS - 1)
                || rules.forces >= MOST_FORCES) {
            return NONE;
        }
        rules.enforce(rules.sheets.get(sheet), week);
        return rules.forces;
    }

    public int why(int clause, int week) {
        if (outside(clause, 0, CLAUSES - 1) || outside(week, 0, WEEKS - 1)) {
            return NONE;
        }
        Sheet found = rules.inForce(clause, week);
        return found == null ? NONE : found.number;
    }

    // The club

    public int pay(int house, int lot, int n) {
        House payer = houseAt(house);
        Lot yarn = lotAt(lot);
        if (payer == null || yarn == null || outside(n, 1, yarn.left)) {
            return VOID;
        }
        yarn.left -= n;
        payer.paid += n;
        if (yarn.spinner != payer) {
            payer.paidOfOthers += n;
        }
        ledger.paid += n;
        return payer.owed - payer.paid;
    }

    public int due(int house, int what) {
        House member = houseAt(house);
        if (member == null) {
            return VOID;
        }
        switch (what) {
            case 0: return member.owed - member.paid;
            case 1: return member.paid;
            case 2: return member.can;
            case 3: return Math.max(member.paid - member.can, 0);
            case 4: return member.paidOfOthers;
            default: return VOID;
        }
    }

    // Weaving

    public int bar(int house, int lot, int n) {
        House weaver = houseAt(house);
        Lot yarn = lotAt(lot);
        if (weaver == null || yarn == null || !canBeWoven(n)) {
            return NONE;
        }
        return barOf(weaver, yarn, n);
    }

    public int weave(int house, int lot, int n) {
        House weaver = houseAt(house);
        Lot yarn = lotAt(lot);
        if (weaver == null || yarn == null || !canBeWoven(n) || cloths.size() >= MOST_CLOTHS
                || now >= WEEKS || barOf(weaver, yarn, n) != 0) {
            return NONE;
        }
        int wage = Math.max(askOfWeaving(WAGE, weaver, yarn, n), 0);
        boolean stamped = askOfWeaving(STAMP, weaver, yarn, n) != 0;
        yarn.left -= n;
        yarn.spinner.purse -= wage;
        weaver.purse += wage;
        weaver.woven += n;
        ledger.woven += n;
        cloths.add(new Cloth(yarn, weaver, now, n / 2, stamped));
        return cloths.size() - 1;
    }

    public int cloth(int cloth, int what) {
        Cloth piece = clothAt(cloth);
        if (piece == null) {
            return NONE;
        }
        switch (what) {
            case 0: return piece.yarn.number;
            case 1: return piece.weaver.number;
            case 2: return piece.week;
            case 3: return piece.yards;
            case 4: return piece.stamped ? 1 : 0;
            case 5: return piece.yarn.spinner.number;
            case 6: return piece.yarn.week;
            case 7: return piece.store;
            default: return NONE;
        }
    }

    // Hands for hanks

    public int ask(int lot) {
        Lot yarn = lotAt(lot);
        if (yarn == null || handwork.lots.size() >= MOST_HANDS || handwork.isTold(yarn)) {
            return NONE;
        }
        handwork.lots.add(yarn);
        return handwork.lots.size();
    }

    public int clear() {
        int were = handwork.lots.size();
        handwork.lots.clear();
        return were;
    }

    public int hands(int looms, int what) {
        if (!handsCanBe(looms, what)) {
            return NONE;
        }
        handwork.begin();
        for (int k = 0; k < houses.size(); k++) {
            if ((looms >> k & 1) != 0) {
                handwork.addLoom(houses.get(k));
            }
        }
        for (int k = 0; k < handwork.lots.size(); k++) {
            offerLot(k, handwork.lots.get(k));
        }
        handwork.find();
        switch (what) {
            case 0: return handwork.hanks;
            case 1: return handwork.days;
            case 2: return handwork.weeks;
            default: return handwork.whoWeaves(what - 10);
        }
    }

    // Stores

    public int bring(int cloth, int village) {
        Cloth piece = clothAt(cloth);
        Village store = villageAt(village);
        if (piece == null || store == null || piece.store != NONE
                || daysBetween(piece.weaver.home, store) == NONE
                || !store.hasRoomFor(piece.yards, piece.stamped)) {
            return NONE;
        }
        piece.store = village;
        store.putHand(piece.yards, piece.stamped);
        return store.stamped + store.plain;
    }

    public int mill(int village, int n) {
        Village store = villageAt(village);
        if (store == null || outside(n, 1, MOST_TOLD) || store.mill + n > MOST_KEPT) {
            return NONE;
        }
        store.mill += n;
        return store.mill;
    }

    public boolean price(int village, int prices) {
        Village store = villageAt(village);
        if (store == null || outside(prices / 100, 1, MOST_PRICE) || outside(prices % 100, 1, MOST_PRICE)) {
            return false;
        }
        store.handPrice = prices / 100;
        store.millPrice = prices % 100;
        return true;
    }

    public int talk(int village, int word) {
        Village place = villageAt(village);
        if (place == null || outside(word, 0, MOST_WORD)) {
            return NONE;
        }
        place.word = word;
        return word;
    }

    public int heard(int village, int other) {
        Village place = villageAt(village);
        Village store = villageAt(other);
        int days = daysBetween(place, store);
        if (store == null || days == NONE || now >= WEEKS) {
            return NONE;
        }
        return store.millPriceAsBegan(now - cutUp(days, 7));
    }

    public int likes(int house) {
        House buyer = houseAt(house);
        if (buyer == null) {
            return NONE;
        }
        return buyer.home.choiceOf(buyer.purse, dutyIn(buyer.home));
    }

    public int sold(int village, int n) {
        Village store = villageAt(village);
        if (store == null || outside(n, 1, MOST_TOLD) || store.sold + n > MOST_KEPT) {
            return NONE;
        }
        store.sold += n;
        return store.sold;
    }

    public int wrong(int village, boolean most) {
        Village store = villageAt(village);
        if (store == null) {
            return NONE;
        }
        return most ? store.mostFalse() : store.surelyFalse();
    }

    public int look() {
        int found = NONE;
        int widest = 0;
        for (int k = 0; k < villages.size(); k++) {
            Village store = villages.get(k);
            int gap = store.mostFalse() - store.surelyFalse();
            if (gap > widest) {
                widest = gap;
                found = k;
            }
        }
        return found;
    }

    // Gifts and hunger

    public int gift(int price, int house, int kind) {
        if (houseAt(house) == null || outside(price, 1, MOST_PRICE)
                || outside(kind, Gifts.WHEEL, Gifts.COTTON) || gifts.told >= MOST_GIFTS) {
            return NONE;
        }
        gifts.tell(price, house, kind);
        return gifts.told - 1;
    }

    public int forget() {
        int were = gifts.told;
        gifts.told = 0;
        return were;
    }

    public int best(int coins, int what) {
        if (coins < 0 || outside(what, 0, 2) || now >= WEEKS) {
            return NONE;
        }
        gifts.choose(coins, villages, houses, seasonOf(now), MOST_LOTS - lots.size());
        if (what == 0) {
            return gifts.heap;
        }
        return what == 1 ? gifts.hanks : gifts.cost;
    }

    public int hungry(int grain) {
        if (outside(grain, 1, MOST_PRICE)) {
            return NONE;
        }
        int bits = 0;
        for (int k = 0; k < houses.size(); k++) {
            House house = houses.get(k);
            if (house.purse < house.heads * grain) {
                bits |= 1 << k;
            }
        }
        return bits;
    }

    public int keeps(int house, int grain) {
        House spinner = houseAt(house);
        if (spinner == null || outside(grain, 1, MOST_PRICE) || now >= WEEKS) {
            return NONE;
        }
        rules.begin(now);
        rules.tellHouse(spinner, seasonOf(now));
        rules.tellWork(spinner.caste, 0);
        rules.tellYarn(spinner.aim, spinner.strength(), wouldSpin(spinner));
        int wage = Math.max(rules.answer(WAGE, now), 0);
        return cut(wage, spinner.heads * grain);
    }

    // Weeks told

    public int told(int week, int number) {
        if (outside(week, 0, now - 1) || outside(number, 0, Ledger.NUMBERS - 1)) {
            return NONE;
        }
        return ledger.numberOf(week, number);
    }

    public int check(int week, int number, int mask) {
        if (outside(week, 0, now - 1) || outside(number, 0, Ledger.NUMBERS - 1)) {
            return NONE;
        }
        return ledger.verdict(week, number, mask);
    }

    // What stands

    public int is(int village, int what) {
        Village place = villageAt(village);
        if (place == null) {
            return NONE;
        }
        switch (what) {
            case 0: return place.cotton;
            case 1: return place.stamped;
            case 2: return place.plain;
            case 3: return place.mill;
            case 4: return place.handPrice;
            case 5: return place.millPrice;
            case 6: return place.word;
            case 7: return place.takings;
            case 8: return place.sold;
            case 9: return place.stampedSold;
            case 10: return place.millSold;
            default: return NONE;
        }
    }

    public int has(int house, int what) {
        House owner = houseAt(house);
        if (owner == null) {
            return VOID;
        }
        switch (what) {
            case 0: return owner.home.number;
            case 1: return owner.wheels;
            case 2: return owner.skill;
            case 3: return owner.caste;
            case 4: return owner.heads;
            case 5: return owner.purse;
            case 6: return owner.aim;
            case 7: return owner.bare;
            case 8: return owner.handYards;
            case 9: return owner.millYards;
            case 10: return owner.hasLoom() ? owner.woven : NONE;
            default: return VOID;
        }
    }

    public int count(int what) {
        switch (what) {
            case 0: return now;
            case 1: return villages.size();
            case 2: return houses.size();
            case 3: return lots.size();
            case 4: return rules.sheets.size();
            case 5: return cloths.size();
            case 6: return reader.size;
            case 7: return handwork.lots.size();
            case 8: return gifts.told;
            case 9: return crown;
            default: return NONE;
        }
    }

    // What is told by number

    private Village villageAt(int n) {
        return n >= 0 && n < villages.size() ? villages.get(n) : null;
    }

    private House houseAt(int n) {
        return n >= 0 && n < houses.size() ? houses.get(n) : null;
    }

    private Lot lotAt(int n) {
        return n >= 0 && n < lots.size() ? lots.get(n) : null;
    }

    private Cloth clothAt(int n) {
        return n >= 0 && n < cloths.size() ? cloths.get(n) : null;
    }

    private int daysBetween(Village one, Village other) {
        return one == null || other == null ? NONE : roads.days(one.number, other.number);
    }

    // How a week ends

    private void endWeek() {
        int hanks = spinAll();
        buyAll();
        spreadWord();
        if (now % SEASON_WEEKS == SEASON_WEEKS - 1) {
            raiseDues();
            moveMillPrices();
        }
        ledger.close(now, cottonOfAll(), hanks, leftOfAll());
        now++;
        beginWeek();
    }

    private int spinAll() {
        int season = seasonOf(now);
        int spun = 0;
        for (int k = 0; k < houses.size(); k++) {
            House house = houses.get(k);
            house.can += house.couldSpin(season);
            int hanks = wouldSpin(house);
            if (hanks > 0) {
                house.home.cotton -= cutUp(hanks, house.aim);
                lots.add(new Lot(lots.size(), house, now, hanks));
                spun += hanks;
            }
        }
        return spun;
    }

    private int wouldSpin(House house) {
        if (lots.size() >= MOST_LOTS) {
            return 0;
        }
        int hours = house.wheels * house.home.idleIn(seasonOf(now));
        return hanksOf(hours, house.skill, house.aim, house.home.cotton);
    }

    private void buyAll() {
        for (int k = 0; k < houses.size(); k++) {
            House buyer = houses.get(k);
            if ((now + buyer.heads) % 4 == 0) {
                buyYard(buyer, dutyIn(buyer.home));
            }
        }
    }

    private void buyYard(House buyer, int duty) {
        Village store = buyer.home;
        int choice = store.choiceOf(buyer.purse, duty);
        if (choice == HAND) {
            store.sellHand();
            buyer.handYards++;
            buyer.purse -= store.handPrice;
        } else if (choice == MILL) {
            store.sellMill();
            buyer.millYards++;
            buyer.purse -= store.millPrice + duty;
            crown += duty;
        } else {
            buyer.bare++;
        }
    }

    private int dutyIn(Village store) {
        rules.begin(now);
        rules.tellPrice(store.millPrice);
        return Math.max(rules.answer(DUTY, now), 0);
    }

    private void spreadWord() {
        int many = Math.min(villages.size(), wordsBefore.length);
        for (int k = 0; k < many; k++) {
            wordsBefore[k] = villages.get(k).word;
        }
        for (int k = 0; k < many; k++) {
            int word = Math.max(wordsBefore[k] - 1, 0);
            for (int other = 0; other < many; other++) {
                if (roads.joins(k, other)) {
                    word = Math.max(word, wordsBefore[other] - 2);
                }
            }
            villages.get(k).word = word;
        }
    }

    private void raiseDues() {
        for (int k = 0; k < houses.size(); k++) {
            House house = houses.get(k);
            if (house.wheels > 0) {
                rules.begin(now);
                rules.tellHouse(house, seasonOf(now));
                house.owed += Math.max(rules.answer(OWE, now), 0);
            }
        }
    }

    private void moveMillPrices() {
        for (int k = 0; k < villages.size(); k++) {
            villages.get(k).endSeason();
        }
    }

    private void beginWeek() {
        for (int k = 0; k < villages.size(); k++) {
            villages.get(k).noteMillPrice(now);
        }
        for (int k = 0; k < houses.size(); k++) {
            houses.get(k).woven = 0;
        }
    }

    private int cottonOfAll() {
        int pounds = 0;
        for (int k = 0; k < villages.size(); k++) {
            pounds += villages.get(k).cotton;
        }
        return pounds;
    }

    private int leftOfAll() {
        int hanks = 0;
        for (int k = 0; k < lots.size(); k++) {
            hanks += lots.get(k).left;
        }
        return hanks;
    }

    // Bars

    private int barOf(House weaver, Lot yarn, int n) {
        int bar = lastingBarOf(weaver, yarn, n);
        if (bar != 0) {
            return bar;
        }
        if (yarn.left < n) {
            return 6;
        }
        return weaver.loomHanks - weaver.woven < n ? 7 : 0;
    }

    private int lastingBarOf(House weaver, Lot yarn, int n) {
        if (!weaver.hasLoom()) {
            return 1;
        }
        if (outside(yarn.count, weaver.loomFrom, weaver.loomTo)) {
            return 2;
        }
        if (yarn.strength < yarn.count + 30) {
            return 3;
        }
        if (daysBetween(yarn.spinner.home, weaver.home) == NONE) {
            return 4;
        }
        return askOfWeaving(MAY, weaver, yarn, n) == 0 ? 5 : 0;
    }

    private int askOfWeaving(int clause, House weaver, Lot yarn, int n) {
        rules.begin(now);
        rules.tellHouse(yarn.spinner, seasonOf(now));
        rules.tellWork(weaver.caste, daysBetween(yarn.spinner.home, weaver.home));
        rules.tellYarn(yarn.count, yarn.strength, n);
        return rules.answer(clause, now);
    }

    // Hands

    private boolean handsCanBe(int looms, int what) {
        int many = handwork.lots.size();
        boolean known = !outside(what, 0, 2) || !outside(what, 10, 9 + many);
        return known && many > 0 && looms >>> houses.size() == 0
                && !outside(Integer.bitCount(looms), 1, MOST_HANDS);
    }

    /**
     * No loom's work bars another lot from it, so each lot by itself takes the most hanks and the
     * fewest days; only weeks and the first way are left to search for.
     */
    private void offerLot(int place, Lot yarn) {
        int hanks = yarn.left - yarn.left % 2;
        int fewest = NONE;
        int choices = 0;
        for (int k = 0; k < handwork.looms.size() && hanks > 0; k++) {
            House weaver = handwork.looms.get(k);
            if (lastingBarOf(weaver, yarn, hanks) == 0) {
                int days = daysBetween(yarn.spinner.home, weaver.home);
                if (fewest == NONE || days < fewest) {
                    fewest = days;
                    choices = 0;
                }
                if (days == fewest) {
                    choices |= 1 << k;
                }
            }
        }
        handwork.offer(place, hanks, fewest, choices);
    }

    // Numbers

    private static boolean outside(int n, int least, int most) {
        return n < least || n > most;
    }

    private static boolean canBeWoven(int n) {
        return n % 2 == 0 && !outside(n, 2, MOST_WOVEN);
    }

    private static int seasonOf(int week) {
        return week / SEASON_WEEKS % SEASONS;
    }

    private static int cut(int all, int part) {
        return part == 0 ? 0 : all / part;
    }

    private static int cutUp(int all, int part) {
        return part == 0 ? 0 : (all + part - 1) / part;
    }

    private static int hanksOf(int hours, int skill, int aim, int cotton) {
        return Math.min(cut(hours * (10 + skill), aim + 20), cotton * aim);
    }

    /** A VILLAGE with its STORE. */
    private static final class Village {
        final int number;
        final int idle;
        final int staple;
        int cotton;
        int word;
        int stamped;
        int plain;
        int mill;
        int handPrice = FIRST_HAND_PRICE;
        int millPrice = FIRST_MILL_PRICE;
        int takings;
        int sold;
        int stampedBrought;
        int stampedSold;
        int millSold;
        int millSoldAhead;
        final int[] millPrices = new int[WEEKS + 1];

        Village(int number, int idle, int staple, int cotton) {
            this.number = number;
            this.idle = idle;
            this.staple = staple;
            this.cotton = cotton;
            Arrays.fill(millPrices, FIRST_MILL_PRICE);
        }

        static boolean idleCanBe(int idle) {
            return idle >= 0 && idle / 1000000 <= MOST_IDLE && idle / 10000 % 100 <= MOST_IDLE
                    && idle / 100 % 100 <= MOST_IDLE && idle % 100 <= MOST_IDLE;
        }

        int idleIn(int season) {
            switch (season) {
                case 0: return idle / 1000000;
                case 1: return idle / 10000 % 100;
                case 2: return idle / 100 % 100;
                default: return idle % 100;
            }
        }

        boolean hasRoomFor(int yards, boolean withStamp) {
            return (withStamp ? stamped : plain) + yards <= MOST_KEPT;
        }

        void putHand(int yards, boolean withStamp) {
            if (withStamp) {
                stamped += yards;
                stampedBrought += yards;
            } else {
                plain += yards;
            }
        }

        int choiceOf(int purse, int duty) {
            boolean handCan = stamped + plain > 0 && purse >= handPrice;
            boolean millCan = mill > 0 && purse >= millPrice + duty;
            if (handCan && millCan) {
                return handPrice <= millPrice + duty + word ? HAND : MILL;
            }
            if (handCan) {
                return HAND;
            }
            return millCan ? MILL : NONE;
        }

        void sellHand() {
            if (stamped > 0) {
                stamped--;
                stampedSold++;
            } else {
                plain--;
            }
            takings += handPrice;
        }

        void sellMill() {
            mill--;
            millSold++;
            takings += millPrice;
        }

        void endSeason() {
            millPrice = millSold < millSoldAhead
                    ? Math.max(millPrice - 1, 1) : Math.min(millPrice + 1, MOST_PRICE);
            millSoldAhead = millSold;
            millSold = 0;
        }

        void noteMillPrice(int week) {
            if (week >= 0 && week < millPrices.length) {
                millPrices[week] = millPrice;
            }
        }

        int millPriceAsBegan(int week) {
            return week >= 0 && week < millPrices.length ? millPrices[week] : FIRST_MILL_PRICE;
        }

        int surelyFalse() {
            return Math.max(sold - stampedBrought, 0);
        }

        int mostFalse() {
            return Math.max(sold - stampedSold, 0);
        }
    }

    /** A HOUSE with its LOOM, if it has one, and its page in THE CLUB. */
    private static final class House {
        final int number;
        final Village home;
        final int wheels;
        final int skill;
        final int caste;
        final int heads;
        int purse;
        int aim = 10;
        int bare;
        int handYards;
        int millYards;
        int loomFrom;
        int loomTo;
        int loomHanks;
        int woven;
        int owed;
        int paid;
        int paidOfOthers;
        int can;

        House(int number, Village home, int what) {
            this.number = number;
            this.home = home;
            wheels = what / 1000;
            skill = what / 100 % 10;
            caste = what / 10 % 10;
            heads = what % 10;
        }

        static boolean canBe(int what) {
            return what >= 0 && what / 1000 <= MOST_WHEELS && what / 100 % 10 >= 1
                    && what / 10 % 10 <= MOST_CASTE && what % 10 >= 1;
        }

        boolean hasLoom() {
            return loomHanks > 0;
        }

        int couldSpin(int season) {
            return wheels * home.idleIn(season) * (10 + skill) / 24;
        }

        int strength() {
            return Math.max(20 * home.staple + 3 * skill - 2 * aim, 0);
        }
    }

    /** A LOT of yarn. */
    private static final class Lot {
        final int number;
        final House spinner;
        final int week;
        final int count;
        final int strength;
        final int hanks;
        int left;

        Lot(int number, House spinner, int week, int hanks) {
            this.number = number;
            this.spinner = spinner;
            this.week = week;
            this.hanks = hanks;
            count = spinner.aim;
            strength = spinner.strength();
            left = hanks;
        }
    }

    /** CLOTH that was woven. */
    private static final class Cloth {
        final Lot yarn;
        final House weaver;
        final int week;
        final int yards;
        final boolean stamped;
        int store = NONE;

        Cloth(Lot yarn, House weaver, int week, int yards, boolean stamped) {
            this.yarn = yarn;
            this.weaver = weaver;
            this.week = week;
            this.yards = yards;
            this.stamped = stamped;
        }
    }

    /** ROADS, and the least DAYS by them, measured anew with each road. */
    private static final class Roads {
        private static final int NO_WAY = 1000000;
        private final int[] laid = new int[MOST_VILLAGES * MOST_VILLAGES];
        private final int[] least = new int[MOST_VILLAGES * MOST_VILLAGES];

        Roads() {
            Arrays.fill(laid, NO_WAY);
            for (int k = 0; k < MOST_VILLAGES; k++) {
                laid[k * MOST_VILLAGES + k] = 0;
            }
            System.arraycopy(laid, 0, least, 0, laid.length);
        }

        void lay(int one, int other, int days) {
            if (known(one) && known(other) && one != other) {
                laid[one * MOST_VILLAGES + other] = days;
                laid[other * MOST_VILLAGES + one] = days;
                System.arraycopy(laid, 0, least, 0, laid.length);
                measure();
            }
        }

        private void measure() {
            for (int by = 0; by < MOST_VILLAGES; by++) {
                for (int from = 0; from < MOST_VILLAGES; from++) {
                    for (int to = 0; to < MOST_VILLAGES; to++) {
                        int round = least[from * MOST_VILLAGES + by] + least[by * MOST_VILLAGES + to];
                        int straight = least[from * MOST_VILLAGES + to];
                        least[from * MOST_VILLAGES + to] = Math.min(straight, round);
                    }
                }
            }
        }

        int days(int one, int other) {
            if (!known(one) || !known(other)) {
                return NONE;
            }
            int days = least[one * MOST_VILLAGES + other];
            return days < NO_WAY ? days : NONE;
        }

        boolean joins(int one, int other) {
            return one != other && known(one) && known(other)
                    && laid[one * MOST_VILLAGES + other] < NO_WAY;
        }

        private static boolean known(int village) {
            return village >= 0 && village < MOST_VILLAGES;
        }
    }

    /**
     * The TEXT and the reading of it: each method of the grammar answers whether its part stands,
     * writes code for it (operands first), and stops at the token that can't stand.
     */
    private static final class Reader {
        static final String WORDS =
                "week season heads wheels skill caste other count strength hanks idle far price owe wage duty may stamp or and not ";
        static final String SIGNS = "+-*/()[]<>=;";
        static final int FIRST_CLAUSE = 13;
        static final int OR = 18;
        static final int AND = 19;
        static final int NOT = 20;
        static final int STOP = -21;

        private static final int END = 0;
        private static final int WORD = 1;
        private static final int NUMBER = 2;
        private static final int BAD = 3;
        private static final int DEEPEST = 8;

        int size;
        private final int[] bytes = new int[MOST_BYTES];
        private int next;
        private int place;
        private int kind;
        private int value;
        private int written;
        private final int[] code = new int[MOST_BYTES];
        private final int[] begins = new int[CLAUSES];

        boolean hasRoomFor(int more) {
            return size + more <= bytes.length;
        }

        void append(int four) {
            for (int shift = 24; shift >= 0 && size < bytes.length; shift -= 8) {
                bytes[size] = four >>> shift & 255;
                size++;
            }
        }

        /** The FAULT of the TEXT. */
        int read() {
            next = 0;
            written = 0;
            Arrays.fill(begins, NONE);
            advance();
            for (int k = 0; k < MOST_BYTES && kind != END; k++) {
                if (!clause()) {
                    return place;
                }
            }
            return NONE;
        }

        /** What was read last, as a SHEET. */
        Sheet asSheet(int number) {
            return new Sheet(number, Arrays.copyOf(code, written), begins.clone());
        }

        private boolean clause() {
            int clause = kind == WORD ? value - FIRST_CLAUSE : NONE;
            if (outside(clause, 0, CLAUSES - 1) || begins[clause] != NONE) {
                return false;
            }
            begins[clause] = written;
            advance();
            boolean stands = clause < MAY ? sum(0) : either(0);
            return stands && kind == ';' && advance() && write(STOP);
        }

        private boolean sum(int depth) {
            boolean stands = product(depth);
            for (int k = 0; k < MOST_BYTES && stands && (kind == '+' || kind == '-'); k++) {
                int sign = kind;
                advance();
                stands = product(depth) && write(-sign);
            }
            return stands;
        }

        private boolean product(int depth) {
            boolean stands = factor(depth);
            for (int k = 0; k < MOST_BYTES && stands && (kind == '*' || kind == '/'); k++) {
                int sign = kind;
                advance();
                stands = factor(depth) && write(-sign);
            }
            return stands;
        }

        private boolean factor(int depth) {
            if (kind == NUMBER && value <= MOST_KEPT) {
                return write(value) && advance();
            }
            if (kind == WORD && !outside(value, 0, FIRST_CLAUSE - 1)) {
                return write(-1 - value) && advance();
            }
            return depth < DEEPEST && kind == '(' && advance() && sum(depth + 1) && kind == ')' && advance();
        }

        private boolean either(int depth) {
            boolean stands = both(depth);
            for (int k = 0; k < MOST_BYTES && stands && isWord(OR); k++) {
                advance();
                stands = both(depth) && write(-OR);
            }
            return stands;
        }

        private boolean both(int depth) {
            boolean stands = holds(depth);
            for (int k = 0; k < MOST_BYTES && stands && isWord(AND); k++) {
                advance();
                stands = holds(depth) && write(-AND);
            }
            return stands;
        }

        private boolean holds(int depth) {
            if (isWord(NOT)) {
                return depth < DEEPEST && advance() && holds(depth + 1) && write(-NOT);
            }
            if (kind == '[') {
                return depth < DEEPEST && advance() && either(depth + 1) && kind == ']' && advance();
            }
            if (!sum(depth)) {
                return false;
            }
            int sign = kind;
            if (sign != '<' && sign != '>' && sign != '=') {
                return false;
            }
            return advance() && sum(depth) && write(-sign);
        }

        private boolean isWord(int number) {
            return kind == WORD && value == number;
        }

        private boolean write(int step) {
            if (written >= code.length) {
                return false;
            }
            code[written] = step;
            written++;
            return true;
        }

        /** Goes to the next token; true, so that it can stand in a row of tests. */
        private boolean advance() {
            while (next < size && (bytes[next] == ' ' || bytes[next] == 10)) {
                next++;
            }
            place = next;
            if (next >= size) {
                kind = END;
            } else if (isLetter(next)) {
                takeWord();
            } else if (isDigit(next)) {
                takeNumber();
            } else {
                kind = SIGNS.indexOf((char) bytes[next]) >= 0 ? bytes[next] : BAD;
                next++;
            }
            return true;
        }

        private void takeWord() {
            while (next < size && isLetter(next)) {
                next++;
            }
            kind = WORD;
            value = wordAt(place, next - place);
        }

        private void takeNumber() {
            kind = NUMBER;
            value = 0;
            while (next < size && isDigit(next)) {
                value = Math.min(value * 10 + bytes[next] - '0', MOST_KEPT + 1);
                next++;
            }
        }

        private boolean isLetter(int at) {
            return at < size && bytes[at] >= 'a' && bytes[at] <= 'z';
        }

        private boolean isDigit(int at) {
            return at < size && bytes[at] >= '0' && bytes[at] <= '9';
        }

        private int wordAt(int from, int length) {
            int number = 0;
            int start = 0;
            for (int k = 0; k < WORDS.length(); k++) {
                if (WORDS.charAt(k) == ' ') {
                    if (k - start == length && isSpelled(start, from, length)) {
                        return number;
                    }
                    number++;
                    start = k + 1;
                }
            }
            return NONE;
        }

        private boolean isSpelled(int start, int from, int length) {
            for (int k = 0; k < length; k++) {
                if (start + k >= WORDS.length() || from + k >= size
                        || WORDS.charAt(start + k) != bytes[from + k]) {
                    return false;
                }
            }
            return true;
        }
    }

    /** A SHEET: code of its CLAUSES, each from where it begins to a STOP. */
    private static final class Sheet {
        final int number;
        private final int[] code;
        private final int[] begins;

        Sheet(int number, int[] code, int[] begins) {
            this.number = number;
            this.code = code;
            this.begins = begins;
        }

        int beginOf(int clause) {
            return clause >= 0 && clause < begins.length ? begins[clause] : NONE;
        }

        int stepAt(int at) {
            return at >= 0 && at < code.length ? code[at] : Reader.STOP;
        }
    }

    /** SHEETS, which of them are IN FORCE, and the NAMES by which they answer. */
    private static final class Rules {
        private static final int WEEK = 0;
        private static final int SEASON = 1;
        private static final int HEADS = 2;
        private static final int WHEELS = 3;
        private static final int SKILL = 4;
        private static final int CASTE = 5;
        private static final int OTHER = 6;
        private static final int COUNT = 7;
        private static final int STRENGTH = 8;
        private static final int HANKS = 9;
        private static final int IDLE = 10;
        private static final int FAR = 11;
        private static final int PRICE = 12;
        private static final int NAMES = 13;
        private static final int MOST_RESULT = 1000000;

        final ArrayList<Sheet> sheets = new ArrayList<>();
        int forces;
        private final Sheet[] forced = new Sheet[MOST_FORCES];
        private final int[] since = new int[MOST_FORCES];
        private final int[] names = new int[NAMES];
        private final int[] stack = new int[MOST_BYTES];

        void enforce(Sheet sheet, int week) {
            if (forces < forced.length) {
                forced[forces] = sheet;
                since[forces] = week;
                forces++;
            }
        }

        Sheet inForce(int clause, int week) {
            Sheet found = null;
            int latest = 0;
            for (int k = 0; k < forces && k < forced.length; k++) {
                Sheet sheet = forced[k];
                if (since[k] <= week && since[k] >= latest && sheet != null
                        && sheet.beginOf(clause) != NONE) {
                    latest = since[k];
                    found = sheet;
                }
            }
            return found;
        }

        void begin(int week) {
            Arrays.fill(names, 0);
            names[WEEK] = week;
            names[SEASON] = seasonOf(week);
        }

        void tellHouse(House house, int season) {
            names[HEADS] = house.heads;
            names[WHEELS] = house.wheels;
            names[SKILL] = house.skill;
            names[CASTE] = house.caste;
            names[IDLE] = house.home.idleIn(season);
        }

        void tellWork(int other, int far) {
            names[OTHER] = other;
            names[FAR] = far;
        }

        void tellYarn(int count, int strength, int hanks) {
            names[COUNT] = count;
            names[STRENGTH] = strength;
            names[HANKS] = hanks;
        }

        void tellPrice(int price) {
            names[PRICE] = price;
        }

        /** What a CLAUSE answers by the NAMES told: a number, or 1 and 0 for may and stamp. */
        int answer(int clause, int week) {
            Sheet sheet = inForce(clause, week);
            if (sheet == null) {
                return clause == OWE || clause == DUTY ? 0 : 1;
            }
            return run(sheet, clause);
        }

        private int run(Sheet sheet, int clause) {
            int top = 0;
            int at = sheet.beginOf(clause);
            int step = sheet.stepAt(at);
            for (int k = 0; k < MOST_BYTES && step != Reader.STOP && top < stack.length; k++) {
                if (step >= 0) {
                    stack[top] = step;
                    top++;
                } else if (step >= -NAMES) {
                    stack[top] = names[-1 - step];
                    top++;
                } else if (step == -Reader.NOT && top > 0) {
                    stack[top - 1] = 1 - stack[top - 1];
                } else if (top > 1) {
                    top--;
                    stack[top - 1] = joined(-step, stack[top - 1], stack[top]);
                }
                at++;
                step = sheet.stepAt(at);
            }
            return top > 0 ? stack[0] : 0;
        }

        private static int joined(int sign, long left, long right) {
            long result = 0;
            switch (sign) {
                case '+': result = left + right; break;
                case '-': result = left - right; break;
                case '*': result = left * right; break;
                case '/': result = right == 0 ? 0 : left / right; break;
                case '<': result = left < right ? 1 : 0; break;
                case '>': result = left > right ? 1 : 0; break;
                case '=': result = left == right ? 1 : 0; break;
                case Reader.OR: result = left | right; break;
                case Reader.AND: result = left & right; break;
                default: break;
            }
            return (int) Math.max(Math.min(result, MOST_RESULT), -MOST_RESULT);
        }
    }

    /** LOTS told for HANDS, and the search for who weaves them. */
    private static final class Handwork {
        private static final int ENDLESS = 1000000;

        final ArrayList<Lot> lots = new ArrayList<>();
        final ArrayList<House> looms = new ArrayList<>();
        int hanks;
        int days;
        int weeks;
        private final int[] needs = new int[MOST_HANDS];
        private final int[] choices = new int[MOST_HANDS];
        private final int[] got = new int[MOST_HANDS];
        private final int[] picks = new int[MOST_HANDS];
        private final int[] firstPicks = new int[MOST_HANDS];

        boolean isTold(Lot lot) {
            for (int k = 0; k < lots.size(); k++) {
                if (lots.get(k) == lot) {
                    return true;
                }
            }
            return false;
        }

        void begin() {
            looms.clear();
            hanks = 0;
            days = 0;
            Arrays.fill(got, 0);
        }

        void addLoom(House house) {
            if (looms.size() < MOST_HANDS) {
                looms.add(house);
            }
        }

        void offer(int place, int need, int far, int bits) {
            if (place >= 0 && place < MOST_HANDS) {
                needs[place] = need;
                choices[place] = bits;
                if (bits != 0) {
                    hanks += need;
                    days += far;
                }
            }
        }

        void find() {
            weeks = ENDLESS;
            search(0, 0);
        }

        /** Goes through the ways in their order, so only one with fewer WEEKS takes the place. */
        private void search(int place, int longest) {
            if (longest >= weeks) {
                return;
            }
            if (place >= lots.size() || place >= MOST_HANDS) {
                weeks = longest;
                System.arraycopy(picks, 0, firstPicks, 0, MOST_HANDS);
                return;
            }
            picks[place] = NONE;
            if (choices[place] == 0) {
                search(place + 1, longest);
            }
            for (int k = 0; k < looms.size() && k < MOST_HANDS; k++) {
                if ((choices[place] >> k & 1) != 0) {
                    picks[place] = k;
                    got[k] += needs[place];
                    search(place + 1, Math.max(longest, cutUp(got[k], looms.get(k).loomHanks)));
                    got[k] -= needs[place];
                }
            }
        }

        int whoWeaves(int place) {
            int pick = place >= 0 && place < MOST_HANDS ? firstPicks[place] : NONE;
            return pick >= 0 && pick < looms.size() ? looms.get(pick).number : NONE;
        }
    }

    /** GIFTS told, and the BEST heap of them. */
    private static final class Gifts {
        static final int WHEEL = 0;
        static final int SKILL = 1;
        static final int COTTON = 2;

        int told;
        int heap;
        int hanks;
        int cost;
        private final int[] prices = new int[MOST_GIFTS];
        private final int[] receivers = new int[MOST_GIFTS];
        private final int[] kinds = new int[MOST_GIFTS];
        private final int[] wheels = new int[MOST_HOUSES];
        private final int[] skills = new int[MOST_HOUSES];
        private final int[] cottons = new int[MOST_VILLAGES];

        void tell(int price, int house, int kind) {
            if (told < MOST_GIFTS) {
                prices[told] = price;
                receivers[told] = house;
                kinds[told] = kind;
                told++;
            }
        }

        /** Heaps go upward, so of like ones the least number stays. */
        void choose(int coins, ArrayList<Village> villages, ArrayList<House> houses, int season,
                int freeLots) {
            heap = NONE;
            hanks = 0;
            cost = 0;
            for (int tried = 0; tried < 1 << told; tried++) {
                int price = priceOf(tried);
                if (price <= coins) {
                    standAsNow(villages, houses);
                    give(tried, houses);
                    int spun = spunBy(houses, season, freeLots);
                    if (heap == NONE || spun > hanks || spun == hanks && price < cost) {
                        heap = tried;
                        hanks = spun;
                        cost = price;
                    }
                }
            }
        }

        private int priceOf(int tried) {
            int price = 0;
            for (int k = 0; k < told && k < MOST_GIFTS; k++) {
                if ((tried >> k & 1) != 0) {
                    price += prices[k];
                }
            }
            return price;
        }

        private void standAsNow(ArrayList<Village> villages, ArrayList<House> houses) {
            for (int k = 0; k < houses.size() && k < MOST_HOUSES; k++) {
                wheels[k] = houses.get(k).wheels;
                skills[k] = houses.get(k).skill;
            }
            for (int k = 0; k < villages.size() && k < MOST_VILLAGES; k++) {
                cottons[k] = villages.get(k).cotton;
            }
        }

        private void give(int tried, ArrayList<House> houses) {
            for (int k = 0; k < told && k < MOST_GIFTS; k++) {
                int house = receivers[k];
                if ((tried >> k & 1) != 0 && house >= 0 && house < houses.size()) {
                    giveOne(house, houses.get(house).home.number, kinds[k]);
                }
            }
        }

        private void giveOne(int house, int home, int kind) {
            if (outside(house, 0, MOST_HOUSES - 1) || outside(home, 0, MOST_VILLAGES - 1)) {
                return;
            }
            if (kind == WHEEL) {
                wheels[house] = Math.min(wheels[house] + 1, MOST_WHEELS);
            } else if (kind == SKILL) {
                skills[house] = Math.min(skills[house] + 1, MOST_SKILL);
            } else {
                cottons[home] = Math.min(cottons[home] + 5, MOST_KEPT);
            }
        }

        private int spunBy(ArrayList<House> houses, int season, int freeLots) {
            int free = freeLots;
            int all = 0;
            for (int k = 0; k < houses.size() && k < MOST_HOUSES && free > 0; k++) {
                House house = houses.get(k);
                int home = house.home.number;
                if (home >= 0 && home < MOST_VILLAGES) {
                    int hours = wheels[k] * house.home.idleIn(season);
                    int spun = hanksOf(hours, skills[k], house.aim, cottons[home]);
                    cottons[home] -= cutUp(spun, house.aim);
                    all += spun;
                    free -= spun > 0 ? 1 : 0;
                }
            }
            return all;
        }
    }

    /** The six numbers of each WEEK that ended. */
    private static final class Ledger {
        static final int NUMBERS = 6;

        int paid;
        int woven;
        private int spun;
        private final int[] rows = new int[WEEKS * NUMBERS];

        void close(int week, int cotton, int hanks, int left) {
            spun += hanks;
            int row = week * NUMBERS;
            if (week >= 0 && week < WEEKS) {
                rows[row] = cotton;
                rows[row + 1] = hanks;
                rows[row + 2] = left;
                rows[row + 3] = paid;
                rows[row + 4] = woven;
                rows[row + 5] = spun;
            }
        }

        int numberOf(int week, int number) {
            boolean stands = week >= 0 && week < WEEKS && number >= 0 && number < NUMBERS;
            return stands ? rows[week * NUMBERS + number] : 0;
        }

        /** Sums are long, so that no mask brings a sum round to what it should be. */
        int verdict(int week, int number, int mask) {
            long left = masked(week, 2, number, mask);
            long all = masked(week, 5, number, mask);
            if (left + masked(week, 3, number, mask) + masked(week, 4, number, mask) != all) {
                return 1;
            }
            long ahead = numberOf(week - 1, 5);
            return all == ahead + masked(week, 1, number, mask) ? 0 : 2;
        }

        private int masked(int week, int wanted, int number, int mask) {
            return numberOf(week, wanted) ^ (wanted == number ? mask : 0);
        }
    }
}
