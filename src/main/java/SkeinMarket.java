import java.util.ArrayList;
import java.util.NoSuchElementException;

/** A spot market for fibre lots with package bids; ../shared/DOC.md says what each call promises. */
public final class SkeinMarket {
    private static final int FIBRES = 4;
    private static final char BEST_GRADE = 'a';
    private static final char WORST_GRADE = 'e';
    private static final int MAX_RESERVE = 999;
    private static final int MAX_PRICE = 9999;
    private static final int BIDDERS = 8;
    private static final int MAX_STEPS = 4;
    private static final int MAX_RULES = 6;
    private static final int MAX_ITEMS = 3;
    private static final int MAX_MADE = 40;
    private static final int MAX_OPEN = 8;
    private static final int LOT_SETS = 1 << MAX_OPEN;

    private static final char OPEN = 'o';
    private static final char SOLD = 's';
    private static final char WITHDRAWN = 'w';
    private static final char WON = 'w';
    private static final char LOST = 'l';
    private static final char CANCELLED = 'c';

    private static final char NO_ITEMS = 'n';
    private static final char NOT_POSSIBLE = 'l';
    private static final char TOO_CHEAP = 'p';
    private static final char BEATEN_BY_OWN = 'b';
    private static final char OTHERWISE = 'm';

    /** Stands for a number of a lot, a bid or a bidder, or for a cost, where there is none. */
    private static final int NONE = -1;
    /** More than any sum of reserves, and far enough from the end of int to add reserves to it. */
    private static final int FAR = 1000000;

    private final ArrayList<Lot> allLots;
    private final ArrayList<Bid> allBids;
    private final ArrayList<Rule> rules;
    private final Floor floor;
    private final Search search;
    private int openLotCount;
    private int openBidCount;
    private int soldCount;
    private int wonCount;
    private long paidSum;

    public SkeinMarket() {
        allLots = new ArrayList<Lot>();
        allBids = new ArrayList<Bid>();
        rules = new ArrayList<Rule>();
        floor = new Floor();
        search = new Search();
    }

    public int offer(int fibre, char grade, int reserve) throws IllegalArgumentException, IllegalStateException {
        if (!isFibre(fibre) || !isGrade(grade) || reserve < 0 || reserve > MAX_RESERVE) {
            throw new IllegalArgumentException("fibre, grade or reserve out of range");
        }
        if (openLotCount >= MAX_OPEN || allLots.size() >= MAX_MADE) {
            throw new IllegalStateException("no more lots");
        }
        allLots.add(new Lot(fibre, grade, reserve));
        openLotCount++;
        return allLots.size() - 1;
    }

    public int withdraw(int lot) throws NoSuchElementException, IllegalStateException {
        Lot known = knownLot(lot);
        if (known.state != OPEN) {
            throw new IllegalStateException("the lot is not open");
        }
        known.state = WITHDRAWN;
        openLotCount--;
        return openLotCount;
    }

    public int allow(int fibre, int other, int steps) throws IllegalArgumentException, IllegalStateException {
        if (!isFibre(fibre) || !isFibre(other) || steps < 0 || steps > MAX_STEPS) {
            throw new IllegalArgumentException("fibre or steps out of range");
        }
        if (rules.size() >= MAX_RULES) {
            throw new IllegalStateException("no more rules");
        }
        rules.add(new Rule(fibre, other, steps));
        return rules.size();
    }

    public int forbid() throws IllegalStateException {
        if (rules.isEmpty()) {
            throw new IllegalStateException("no rules");
        }
        rules.remove(rules.size() - 1);
        return rules.size();
    }

    public int bid(int bidder, int price) throws IllegalArgumentException, IllegalStateException {
        if (!isBidder(bidder) || price < 0 || price > MAX_PRICE) {
            throw new IllegalArgumentException("bidder or price out of range");
        }
        if (openBidCount >= MAX_OPEN || allBids.size() >= MAX_MADE) {
            throw new IllegalStateException("no more bids");
        }
        allBids.add(new Bid(bidder, price));
        openBidCount++;
        return allBids.size() - 1;
    }

    public int ask(int bid, int fibre, char grade)
            throws NoSuchElementException, IllegalArgumentException, IllegalStateException {
        Bid known = knownBid(bid);
        if (!isFibre(fibre) || !isGrade(grade)) {
            throw new IllegalArgumentException("fibre or grade out of range");
        }
        if (known.state != OPEN || known.wishes.size() >= MAX_ITEMS) {
            throw new IllegalStateException("the bid takes no more items");
        }
        known.wishes.add(new Item(fibre, grade));
        return known.wishes.size();
    }

    public int raise(int bid, int price)
            throws NoSuchElementException, IllegalStateException, IllegalArgumentException {
        Bid known = knownOpenBid(bid);
        int before = known.price;
        if (price <= before || price > MAX_PRICE) {
            throw new IllegalArgumentException("the price is no raise or out of range");
        }
        known.price = price;
        return before;
    }

    public int cancel(int bid) throws NoSuchElementException, IllegalStateException {
        Bid known = knownOpenBid(bid);
        known.state = CANCELLED;
        openBidCount--;
        return known.price;
    }

    public int close() throws IllegalStateException {
        if (openBidCount <= 0) {
            throw new IllegalStateException("no bid is open");
        }
        fillFloor();
        search.findBest(floor, NONE);
        int best = search.bestSet;
        int bestSurplus = search.bestSurplus;
        // Payments, lots and reasons read the floor only, which keeps the market as it was before the closing.
        settlePayments(best, bestSurplus);
        int sold = handOutLots(best);
        settleLosers(best);
        openLotCount -= sold;
        soldCount += sold;
        openBidCount = 0;
        return sold;
    }

    public int lots() {
        return allLots.size();
    }

    public int bids() {
        return allBids.size();
    }

    public int openLots() {
        return openLotCount;
    }

    public int openBids() {
        return openBidCount;
    }

    public int fibreOf(int lot) throws NoSuchElementException {
        return knownLot(lot).fibre;
    }

    public char gradeOf(int lot) throws NoSuchElementException {
        return knownLot(lot).grade;
    }

    public int reserveOf(int lot) throws NoSuchElementException {
        return knownLot(lot).reserve;
    }

    public char lotState(int lot) throws NoSuchElementException {
        return knownLot(lot).state;
    }

    public int soldTo(int lot) throws NoSuchElementException, IllegalStateException {
        Lot known = knownLot(lot);
        if (known.state != SOLD) {
            throw new IllegalStateException("the lot is not sold");
        }
        return known.buyer;
    }

    public int countOf(int fibre, char grade) throws IllegalArgumentException {
        if (!isFibre(fibre) || !isGrade(grade)) {
            throw new IllegalArgumentException("fibre or grade out of range");
        }
        int count = 0;
        for (int i = 0; i < allLots.size(); i++) {
            Lot lot = allLots.get(i);
            if (lot.state == OPEN && lot.fibre == fibre && lot.grade == grade) {
                count++;
            }
        }
        return count;
    }

    public int items(int bid) throws NoSuchElementException {
        return knownBid(bid).wishes.size();
    }

    public boolean fits(int lot, int bid, int item) throws NoSuchElementException, IndexOutOfBoundsException {
        Lot known = knownLot(lot);
        return isFit(known, knownItem(knownBid(bid), item));
    }

    public int fitting(int bid, int item) throws NoSuchElementException, IndexOutOfBoundsException {
        Item known = knownItem(knownBid(bid), item);
        int count = 0;
        for (int i = 0; i < allLots.size(); i++) {
            Lot lot = allLots.get(i);
            if (lot.state == OPEN && isFit(lot, known)) {
                count++;
            }
        }
        return count;
    }

    public int priceOf(int bid) throws NoSuchElementException {
        return knownBid(bid).price;
    }

    public char stateOf(int bid) throws NoSuchElementException {
        return knownBid(bid).state;
    }

    public char reason(int bid) throws NoSuchElementException, IllegalStateException {
        Bid known = knownBid(bid);
        if (known.state != LOST) {
            throw new IllegalStateException("the bid has not lost");
        }
        return known.lossReason;
    }

    public int rival(int bid) throws NoSuchElementException, IllegalStateException {
        Bid known = knownBid(bid);
        if (known.state != LOST || known.lossReason != BEATEN_BY_OWN) {
            throw new IllegalStateException("the bid has not lost to a bid of its bidder");
        }
        return known.winner;
    }

    public int lotOf(int bid, int item)
            throws NoSuchElementException, IndexOutOfBoundsException, IllegalStateException {
        Bid known = knownBid(bid);
        Item wish = knownItem(known, item);
        if (known.state != WON) {
            throw new IllegalStateException("the bid has not won");
        }
        return wish.lot;
    }

    public int paid(int bid) throws NoSuchElementException, IllegalStateException {
        Bid known = knownBid(bid);
        if (known.state != WON) {
            throw new IllegalStateException("the bid has not won");
        }
        return known.dues;
    }

    public int costOf(int bid) throws NoSuchElementException, IllegalStateException, UnsupportedOperationException {
        knownOpenBid(bid);
        fillFloor();
        int cost = floor.leastCost(floor.setOf(bid));
        if (cost == NONE) {
            throw new UnsupportedOperationException("the set of the bid alone is not possible");
        }
        return cost;
    }

    public int surplus() {
        fillFloor();
        search.findBest(floor, NONE);
        return search.bestSurplus;
    }

    public int surplusBySets() {
        fillFloor();
        search.goThroughSets(floor);
        return search.bestSurplus;
    }

    public int surplusWithout(int bidder) throws IllegalArgumentException {
        if (!isBidder(bidder)) {
            throw new IllegalArgumentException("bidder out of range");
        }
        fillFloor();
        search.findBest(floor, bidder);
        return search.bestSurplus;
    }

    public boolean wouldWin(int bid) throws NoSuchElementException, IllegalStateException {
        knownOpenBid(bid);
        return isInBestSet(bid);
    }

    public boolean wouldWinBySets(int bid) throws NoSuchElementException, IllegalStateException {
        knownOpenBid(bid);
        fillFloor();
        search.goThroughSets(floor);
        return (search.bestSet & floor.setOf(bid)) != 0;
    }

    public int lotFor(int bid, int item)
            throws NoSuchElementException, IndexOutOfBoundsException, IllegalStateException,
            UnsupportedOperationException {
        knownItem(knownBid(bid), item);
        knownOpenBid(bid);
        if (!isInBestSet(bid)) {
            throw new UnsupportedOperationException("the bid would not win");
        }
        int best = search.bestSet;
        floor.giveLots(best);
        return floor.lotGiven(best, floor.placeOf(bid), item);
    }

    public int payment(int bid) throws NoSuchElementException, IllegalStateException, UnsupportedOperationException {
        Bid known = knownOpenBid(bid);
        if (!isInBestSet(bid)) {
            throw new UnsupportedOperationException("the bid would not win");
        }
        int bestSurplus = search.bestSurplus;
        search.findBest(floor, known.bidder);
        return known.price - bestSurplus + search.bestSurplus;
    }

    public long takings() {
        return paidSum;
    }

    public float soldShare() throws ArithmeticException {
        if (allLots.isEmpty()) {
            throw new ArithmeticException("no lots have been offered");
        }
        return (float) soldCount / (float) allLots.size();
    }

    public double meanPaid() throws ArithmeticException {
        if (wonCount <= 0) {
            throw new ArithmeticException("no bid has won");
        }
        return (double) paidSum / (double) wonCount;
    }

    private static boolean isFibre(int fibre) {
        return fibre >= 0 && fibre < FIBRES;
    }

    private static boolean isGrade(char grade) {
        return grade >= BEST_GRADE && grade <= WORST_GRADE;
    }

    private static boolean isBidder(int bidder) {
        return bidder >= 0 && bidder < BIDDERS;
    }

    private boolean isLot(int number) {
        return number >= 0 && number < allLots.size();
    }

    private boolean isBid(int number) {
        return number >= 0 && number < allBids.size();
    }

    private Lot knownLot(int lot) {
        if (!isLot(lot)) {
            throw new NoSuchElementException("no such lot");
        }
        return allLots.get(lot);
    }

    private Bid knownBid(int bid) {
        if (!isBid(bid)) {
            throw new NoSuchElementException("no such bid");
        }
        return allBids.get(bid);
    }

    private Bid knownOpenBid(int bid) {
        Bid known = knownBid(bid);
        if (known.state != OPEN) {
            throw new IllegalStateException("the bid is not open");
        }
        return known;
    }

    private static Item knownItem(Bid bid, int item) {
        if (item < 0 || item >= bid.wishes.size()) {
            throw new IndexOutOfBoundsException("no such item");
        }
        return bid.wishes.get(item);
    }

    private boolean isFit(Lot lot, Item item) {
        int stepsBetter = item.grade - lot.grade;
        if (lot.fibre == item.fibre && stepsBetter >= 0) {
            return true;
        }
        for (int i = 0; i < rules.size(); i++) {
            Rule rule = rules.get(i);
            if (rule.fibre == item.fibre && rule.other == lot.fibre && stepsBetter >= rule.steps) {
                return true;
            }
        }
        return false;
    }

    private void fillFloor() {
        floor.clearAll();
        for (int i = 0; i < allLots.size(); i++) {
            Lot lot = allLots.get(i);
            if (lot.state == OPEN) {
                floor.addLot(i, lot.reserve);
            }
        }
        for (int i = 0; i < allBids.size(); i++) {
            Bid bid = allBids.get(i);
            if (bid.state == OPEN) {
                floor.addBid(i, bid.bidder, bid.price);
                addItemsToFloor(bid);
            }
        }
    }

    private void addItemsToFloor(Bid bid) {
        for (int i = 0; i < bid.wishes.size(); i++) {
            floor.addItem(fittingOnFloor(bid.wishes.get(i)));
        }
    }

    private int fittingOnFloor(Item item) {
        int fitting = 0;
        for (int place = 0; place < floor.lotCount; place++) {
            int number = floor.lotNumbers[place];
            if (isLot(number) && isFit(allLots.get(number), item)) {
                fitting |= 1 << place;
            }
        }
        return fitting;
    }

    private boolean isInBestSet(int bid) {
        fillFloor();
        search.findBest(floor, NONE);
        return (search.bestSet & floor.setOf(bid)) != 0;
    }

    private void settlePayments(int best, int bestSurplus) {
        for (int place = 0; place < floor.bidCount; place++) {
            int number = floor.bidNumbers[place];
            if ((best & 1 << place) != 0 && isBid(number)) {
                Bid bid = allBids.get(number);
                search.findBest(floor, bid.bidder);
                bid.dues = bid.price - bestSurplus + search.bestSurplus;
                bid.state = WON;
                paidSum += bid.dues;
                wonCount++;
            }
        }
    }

    private int handOutLots(int best) {
        floor.giveLots(best);
        int sold = 0;
        for (int place = 0; place < floor.bidCount; place++) {
            if ((best & 1 << place) != 0) {
                sold += handOutLotsTo(best, place);
            }
        }
        return sold;
    }

    private int handOutLotsTo(int best, int place) {
        int number = floor.bidNumbers[place];
        if (!isBid(number)) {
            return 0;
        }
        ArrayList<Item> wishes = allBids.get(number).wishes;
        int sold = 0;
        for (int i = 0; i < wishes.size(); i++) {
            int lot = floor.lotGiven(best, place, i);
            if (isLot(lot)) {
                wishes.get(i).lot = lot;
                allLots.get(lot).state = SOLD;
                allLots.get(lot).buyer = number;
                sold++;
            }
        }
        return sold;
    }

    private void settleLosers(int best) {
        for (int place = 0; place < floor.bidCount; place++) {
            int number = floor.bidNumbers[place];
            if ((best & 1 << place) == 0 && isBid(number)) {
                Bid bid = allBids.get(number);
                bid.state = LOST;
                bid.winner = floor.bidOfBidderIn(best, bid.bidder);
                bid.lossReason = reasonToLose(bid, place);
            }
        }
    }

    private char reasonToLose(Bid bid, int place) {
        if (bid.wishes.isEmpty()) {
            return NO_ITEMS;
        }
        int cost = floor.leastCost(1 << place);
        if (cost == NONE) {
            return NOT_POSSIBLE;
        }
        if (bid.price < cost) {
            return TOO_CHEAP;
        }
        return bid.winner == NONE ? OTHERWISE : BEATEN_BY_OWN;
    }

    /** A lot that has been offered. */
    private static final class Lot {
        private final int fibre;
        private final char grade;
        private final int reserve;
        private char state = OPEN;
        private int buyer = NONE;

        private Lot(int fibre, char grade, int reserve) {
            this.fibre = fibre;
            this.grade = grade;
            this.reserve = reserve;
        }
    }

    /** What a bid asks for in one place, and the lot that it has got there. */
    private static final class Item {
        private final int fibre;
        private final char grade;
        private int lot = NONE;

        private Item(int fibre, char grade) {
            this.fibre = fibre;
            this.grade = grade;
        }
    }

    /** A bid that has been made. */
    private static final class Bid {
        private final int bidder;
        private final ArrayList<Item> wishes = new ArrayList<Item>();
        private int price;
        private char state = OPEN;
        private char lossReason = OTHERWISE;
        private int winner = NONE;
        private int dues;

        private Bid(int bidder, int price) {
            this.bidder = bidder;
            this.price = price;
        }
    }

    /** Lets lots of another fibre stand in for a fibre. */
    private static final class Rule {
        private final int fibre;
        private final int other;
        private final int steps;

        private Rule(int fibre, int other, int steps) {
            this.fibre = fibre;
            this.other = other;
            this.steps = steps;
        }
    }

    /**
     * The open lots and bids, each kind by its numbers. A lot's or bid's place here is its bit in a set
     * of lots or bids, so that sets are compared and joined as ints.
     */
    private static final class Floor {
        private final int[] lotNumbers = new int[MAX_OPEN];
        private final int[] reserves = new int[MAX_OPEN];
        private final int[] reserveSums = new int[LOT_SETS];
        private final int[] bidNumbers = new int[MAX_OPEN];
        private final int[] bidders = new int[MAX_OPEN];
        private final int[] prices = new int[MAX_OPEN];
        private final int[] itemCounts = new int[MAX_OPEN];
        private final int[] fittingLots = new int[MAX_OPEN * MAX_ITEMS];
        private final int[] queue = new int[MAX_OPEN];
        private final int[] restCosts = new int[LOT_SETS];
        private final int[] givenPlaces = new int[MAX_OPEN];
        private int lotCount;
        private int bidCount;
        private int queueLength;

        private Floor() {
        }

        private void clearAll() {
            lotCount = 0;
            bidCount = 0;
            queueLength = 0;
        }

        private void addLot(int number, int reserve) {
            if (lotCount >= MAX_OPEN) {
                return;
            }
            int bit = 1 << lotCount;
            for (int below = 0; below < bit; below++) {
                reserveSums[bit | below] = reserveSums[below] + reserve;
            }
            lotNumbers[lotCount] = number;
            reserves[lotCount] = reserve;
            lotCount++;
        }

        private void addBid(int number, int bidder, int price) {
            if (bidCount >= MAX_OPEN) {
                return;
            }
            bidNumbers[bidCount] = number;
            bidders[bidCount] = bidder;
            prices[bidCount] = price;
            itemCounts[bidCount] = 0;
            bidCount++;
        }

        /** Adds an item to the bid that was added last. */
        private void addItem(int fitting) {
            int place = bidCount - 1;
            if (place < 0 || itemCounts[place] >= MAX_ITEMS) {
                return;
            }
            fittingLots[place * MAX_ITEMS + itemCounts[place]] = fitting;
            itemCounts[place]++;
        }

        private int placeOf(int number) {
            for (int place = 0; place < bidCount; place++) {
                if (bidNumbers[place] == number) {
                    return place;
                }
            }
            return NONE;
        }

        private int setOf(int number) {
            int place = placeOf(number);
            return place < 0 ? 0 : 1 << place;
        }

        private int bidOfBidderIn(int set, int bidder) {
            for (int place = 0; place < bidCount; place++) {
                if ((set & 1 << place) != 0 && bidders[place] == bidder) {
                    return bidNumbers[place];
                }
            }
            return NONE;
        }

        private boolean hasOneBidPerBidder(int set) {
            int seen = 0;
            for (int place = 0; place < bidCount; place++) {
                if ((set & 1 << place) != 0) {
                    int bit = 1 << bidders[place];
                    if ((seen & bit) != 0) {
                        return false;
                    }
                    seen |= bit;
                }
            }
            return true;
        }

        private int priceSum(int set) {
            int sum = 0;
            for (int place = 0; place < bidCount; place++) {
                if ((set & 1 << place) != 0) {
                    sum += prices[place];
                }
            }
            return sum;
        }

        /** Answers NONE if the set is not possible. */
        private int leastCost(int set) {
            if (!hasOneBidPerBidder(set) || !queueItems(set)) {
                return NONE;
            }
            // Items take lots in the queue's order, so the number of lots taken tells whose turn it is.
            for (int taken = (1 << lotCount) - 1; taken >= 0; taken--) {
                restCosts[taken] = restCost(taken);
            }
            return restCosts[0] < FAR ? restCosts[0] : NONE;
        }

        /** Lines up the items of a set; answers false if a bid has none or there are more than lots. */
        private boolean queueItems(int set) {
            queueLength = 0;
            for (int place = 0; place < bidCount; place++) {
                if ((set & 1 << place) != 0) {
                    int count = itemCounts[place];
                    if (count == 0 || queueLength + count > lotCount) {
                        return false;
                    }
                    for (int i = 0; i < count; i++) {
                        queue[queueLength] = fittingLots[place * MAX_ITEMS + i];
                        queueLength++;
                    }
                }
            }
            return true;
        }

        /** The least sum of reserves for the items that have no lot yet when these lots are taken. */
        private int restCost(int taken) {
            int served = Integer.bitCount(taken);
            if (served >= queueLength) {
                return 0;
            }
            int free = queue[served] & ~taken;
            int least = FAR;
            for (int lot = 0; lot < lotCount; lot++) {
                if ((free & 1 << lot) != 0) {
                    least = Math.min(least, reserves[lot] + restCosts[taken | 1 << lot]);
                }
            }
            return least;
        }

        /** Gives the items of a possible set their lots, the lowest number first where costs are the same. */
        private void giveLots(int set) {
            if (leastCost(set) == NONE) {
                queueLength = 0;
                return;
            }
            int taken = 0;
            for (int i = 0; i < queueLength; i++) {
                int lot = firstCheapest(queue[i] & ~taken, taken);
                givenPlaces[i] = lot;
                if (lot >= 0) {
                    taken |= 1 << lot;
                }
            }
        }

        private int firstCheapest(int free, int taken) {
            for (int lot = 0; lot < lotCount; lot++) {
                if ((free & 1 << lot) != 0 && reserves[lot] + restCosts[taken | 1 << lot] == restCosts[taken]) {
                    return lot;
                }
            }
            return NONE;
        }

        /** Answers the number of the lot that giveLots gave to an item of a bid of the set. */
        private int lotGiven(int set, int bidPlace, int item) {
            int index = item;
            for (int place = 0; place < bidPlace && place < bidCount; place++) {
                if ((set & 1 << place) != 0) {
                    index += itemCounts[place];
                }
            }
            if (index < 0 || index >= queueLength || givenPlaces[index] < 0) {
                return NONE;
            }
            return lotNumbers[givenPlaces[index]];
        }
    }

    /** Finds the best set of the bids on a floor, in two ways. */
    private static final class Search {
        private final boolean[] canFill = new boolean[LOT_SETS];
        private final boolean[] worthTrying = new boolean[MAX_OPEN];
        private final int[] hopes = new int[MAX_OPEN + 1];
        private int bestSet;
        private int bestSurplus;

        private Search() {
        }

        private void forgetBest() {
            bestSet = 0;
            // Below the empty set's surplus: the empty set is found last, as it loses every tie.
            bestSurplus = -1;
        }

        private void goThroughSets(Floor floor) {
            forgetBest();
            for (int set = 0; set < 1 << floor.bidCount; set++) {
                int cost = floor.leastCost(set);
                if (cost != NONE) {
                    compareWithBest(set, floor.priceSum(set) - cost);
                }
            }
        }

        private void compareWithBest(int set, int surplus) {
            if (surplus > bestSurplus || surplus == bestSurplus && hasLowestOfDifferent(set, bestSet)) {
                bestSet = set;
                bestSurplus = surplus;
            }
        }

        private static boolean hasLowestOfDifferent(int set, int other) {
            int different = set ^ other;
            return (different & -different & set) != 0;
        }

        /** By branch and bound, without the bids of one bidder, or with all bids if that is NONE. */
        private void findBest(Floor floor, int withoutBidder) {
            forgetBest();
            estimate(floor, withoutBidder);
            canFill[0] = true;
            branch(this, floor, 0, 0, 0, 0, 0);
        }

        /**
         * A bid adds no more to a set's surplus than it has alone, as the lots of both are different.
         * So a bid with less than 0 alone is in no best set, and the others' sum bounds what can be added.
         */
        private void estimate(Floor floor, int withoutBidder) {
            hopes[floor.bidCount] = 0;
            for (int place = floor.bidCount - 1; place >= 0; place--) {
                int cost = floor.leastCost(1 << place);
                int alone = cost == NONE ? -1 : floor.prices[place] - cost;
                worthTrying[place] = alone >= 0 && floor.bidders[place] != withoutBidder;
                hopes[place] = hopes[place + 1] + (worthTrying[place] ? alone : 0);
            }
        }

        /**
         * Takes a bid before it leaves it out, so that of sets with the same surplus the better one
         * comes first, and only a greater surplus replaces it.
         */
        private static void branch(Search search, Floor floor, int place, int set, int items, int prices, int cost) {
            if (place > floor.bidCount || prices - cost + search.hopes[place] <= search.bestSurplus) {
                return;
            }
            if (place == floor.bidCount) {
                search.bestSet = set;
                search.bestSurplus = prices - cost;
                return;
            }
            if (search.worthTrying[place] && floor.bidOfBidderIn(set, floor.bidders[place]) == NONE) {
                int costWith = search.costWith(floor, place, items);
                if (costWith != NONE) {
                    branch(search, floor, place + 1, set | 1 << place, items + floor.itemCounts[place],
                            prices + floor.prices[place], costWith);
                }
            }
            branch(search, floor, place + 1, set, items, prices, cost);
        }

        /**
         * Answers the cost when a bid joins a set with that many items, or NONE. It writes only canFill of
         * sets of more lots than that, so what stands for the set itself is still there for the next branch.
         */
        private int costWith(Floor floor, int place, int items) {
            int itemsWith = items + floor.itemCounts[place];
            if (itemsWith > floor.lotCount) {
                return NONE;
            }
            for (int i = 0; items + i < itemsWith; i++) {
                fillWithItem(floor, floor.fittingLots[place * MAX_ITEMS + i], items + i + 1);
            }
            return leastFilled(floor, itemsWith);
        }

        /** Finds which sets of so many lots the items can fill, when the last of them has these fitting lots. */
        private void fillWithItem(Floor floor, int fitting, int size) {
            for (int lots = 0; lots < 1 << floor.lotCount; lots++) {
                if (Integer.bitCount(lots) == size) {
                    canFill[lots] = canFillWithLast(floor, lots, fitting);
                }
            }
        }

        private boolean canFillWithLast(Floor floor, int lots, int fitting) {
            for (int lot = 0; lot < floor.lotCount; lot++) {
                if ((lots & fitting & 1 << lot) != 0 && canFill[lots ^ 1 << lot]) {
                    return true;
                }
            }
            return false;
        }

        private int leastFilled(Floor floor, int size) {
            int least = FAR;
            for (int lots = 0; lots < 1 << floor.lotCount; lots++) {
                if (canFill[lots] && Integer.bitCount(lots) == size) {
                    least = Math.min(least, floor.reserveSums[lots]);
                }
            }
            return least < FAR ? least : NONE;
        }
    }
}
