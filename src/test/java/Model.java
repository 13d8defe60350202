import java.util.ArrayList;
import java.util.Arrays;
import java.util.HashMap;
import java.util.List;
import java.util.Map;
import java.util.NoSuchElementException;

/**
 * The document once more, as plainly as can be: it tries every set of bids with every way of giving lots,
 * and compares what it finds by the words of "Sets of bids". Only tests use it.
 */
public final class Model {
    static final class Lot {
        int fibre;
        char grade;
        int reserve;
        char state = 'o';
        int buyer = -1;
    }

    static final class Bid {
        int number;
        int bidder;
        int price;
        char state = 'o';
        char reason;
        int rival = -1;
        int paid;
        List<int[]> wishes = new ArrayList<>();
        int[] got = new int[0];
    }

    /** A possible set, with the lots of its items in the document's order. */
    static final class Plan {
        List<Bid> set = new ArrayList<>();
        List<Integer> given = new ArrayList<>();
        int surplus;
    }

    private final List<Lot> lots = new ArrayList<>();
    private final List<Bid> bids = new ArrayList<>();
    private final List<int[]> rules = new ArrayList<>();
    private long takings;
    private Plan best;
    /** The best plans by the bidder left out, until a call may change them. */
    private final Map<Integer, Plan> plans = new HashMap<>();

    public int offer(int fibre, char grade, int reserve) {
        plans.clear();
        need(fibreOk(fibre) && gradeOk(grade) && reserve >= 0 && reserve <= 999, new IllegalArgumentException());
        need(openLots() < 8 && lots.size() < 40, new IllegalStateException());
        Lot lot = new Lot();
        lot.fibre = fibre;
        lot.grade = grade;
        lot.reserve = reserve;
        lots.add(lot);
        return lots.size() - 1;
    }

    public int withdraw(int lot) {
        plans.clear();
        Lot known = lot(lot);
        need(known.state == 'o', new IllegalStateException());
        known.state = 'w';
        return openLots();
    }

    public int allow(int fibre, int other, int steps) {
        plans.clear();
        need(fibreOk(fibre) && fibreOk(other) && steps >= 0 && steps <= 4, new IllegalArgumentException());
        need(rules.size() < 6, new IllegalStateException());
        rules.add(new int[] {fibre, other, steps});
        return rules.size();
    }

    public int forbid() {
        plans.clear();
        need(!rules.isEmpty(), new IllegalStateException());
        rules.remove(rules.size() - 1);
        return rules.size();
    }

    public int bid(int bidder, int price) {
        plans.clear();
        need(bidder >= 0 && bidder <= 7 && price >= 0 && price <= 9999, new IllegalArgumentException());
        need(openBids() < 8 && bids.size() < 40, new IllegalStateException());
        Bid bid = new Bid();
        bid.number = bids.size();
        bid.bidder = bidder;
        bid.price = price;
        bids.add(bid);
        return bid.number;
    }

    public int ask(int bid, int fibre, char grade) {
        plans.clear();
        Bid known = known(bid);
        need(fibreOk(fibre) && gradeOk(grade), new IllegalArgumentException());
        need(known.state == 'o' && known.wishes.size() < 3, new IllegalStateException());
        known.wishes.add(new int[] {fibre, grade});
        return known.wishes.size();
    }

    public int raise(int bid, int price) {
        plans.clear();
        Bid known = open(bid);
        need(price > known.price && price <= 9999, new IllegalArgumentException());
        int before = known.price;
        known.price = price;
        return before;
    }

    public int cancel(int bid) {
        plans.clear();
        Bid known = open(bid);
        known.state = 'c';
        return known.price;
    }

    public int close() {
        need(openBids() > 0, new IllegalStateException());
        Plan plan = bestPlan(-1);
        List<Bid> open = openList();
        int[] payments = new int[plan.set.size()];
        for (int i = 0; i < payments.length; i++) {
            payments[i] = payment(plan.set.get(i).number);
        }
        for (Bid bid : open) {
            if (!plan.set.contains(bid)) {
                settleLoser(bid, plan);
            }
        }
        plans.clear();
        int next = 0;
        for (int i = 0; i < payments.length; i++) {
            Bid bid = plan.set.get(i);
            bid.state = 'w';
            bid.paid = payments[i];
            takings += payments[i];
            bid.got = new int[bid.wishes.size()];
            for (int item = 0; item < bid.got.length; item++) {
                bid.got[item] = plan.given.get(next++);
                lots.get(bid.got[item]).state = 's';
                lots.get(bid.got[item]).buyer = bid.number;
            }
        }
        for (Bid bid : open) {
            bid.state = bid.state == 'o' ? 'l' : bid.state;
        }
        return next;
    }

    private void settleLoser(Bid bid, Plan plan) {
        for (Bid winner : plan.set) {
            bid.rival = winner.bidder == bid.bidder ? winner.number : bid.rival;
        }
        Plan alone = alone(bid);
        if (bid.wishes.isEmpty()) {
            bid.reason = 'n';
        } else if (alone == null) {
            bid.reason = 'l';
        } else if (alone.surplus < 0) {
            bid.reason = 'p';
        } else {
            bid.reason = bid.rival >= 0 ? 'b' : 'm';
        }
    }

    public int lots() {
        return lots.size();
    }

    public int bids() {
        return bids.size();
    }

    public int openLots() {
        return (int) lots.stream().filter(lot -> lot.state == 'o').count();
    }

    public int openBids() {
        return openList().size();
    }

    public int fibreOf(int lot) {
        return lot(lot).fibre;
    }

    public char gradeOf(int lot) {
        return lot(lot).grade;
    }

    public int reserveOf(int lot) {
        return lot(lot).reserve;
    }

    public char lotState(int lot) {
        return lot(lot).state;
    }

    public int soldTo(int lot) {
        need(lot(lot).state == 's', new IllegalStateException());
        return lot(lot).buyer;
    }

    public int countOf(int fibre, char grade) {
        need(fibreOk(fibre) && gradeOk(grade), new IllegalArgumentException());
        return (int) lots.stream().filter(l -> l.state == 'o' && l.fibre == fibre && l.grade == grade).count();
    }

    public int items(int bid) {
        return known(bid).wishes.size();
    }

    public boolean fits(int lot, int bid, int item) {
        Lot known = lot(lot);
        return fit(known, wish(known(bid), item));
    }

    public int fitting(int bid, int item) {
        int[] wish = wish(known(bid), item);
        return (int) lots.stream().filter(lot -> lot.state == 'o' && fit(lot, wish)).count();
    }

    public int priceOf(int bid) {
        return known(bid).price;
    }

    public char stateOf(int bid) {
        return known(bid).state;
    }

    public char reason(int bid) {
        need(known(bid).state == 'l', new IllegalStateException());
        return known(bid).reason;
    }

    public int rival(int bid) {
        need(known(bid).state == 'l' && known(bid).reason == 'b', new IllegalStateException());
        return known(bid).rival;
    }

    public int lotOf(int bid, int item) {
        wish(known(bid), item);
        need(known(bid).state == 'w', new IllegalStateException());
        return known(bid).got[item];
    }

    public int paid(int bid) {
        need(known(bid).state == 'w', new IllegalStateException());
        return known(bid).paid;
    }

    public int costOf(int bid) {
        Plan alone = alone(open(bid));
        need(alone != null, new UnsupportedOperationException());
        return known(bid).price - alone.surplus;
    }

    public int surplus() {
        return bestPlan(-1).surplus;
    }

    public int surplusBySets() {
        return bestPlan(-1).surplus;
    }

    public int surplusWithout(int bidder) {
        need(bidder >= 0 && bidder <= 7, new IllegalArgumentException());
        return bestPlan(bidder).surplus;
    }

    public boolean wouldWin(int bid) {
        return bestPlan(-1).set.contains(open(bid));
    }

    public boolean wouldWinBySets(int bid) {
        return wouldWin(bid);
    }

    public int lotFor(int bid, int item) {
        wish(known(bid), item);
        Bid known = open(bid);
        Plan plan = bestPlan(-1);
        need(plan.set.contains(known), new UnsupportedOperationException());
        int index = item;
        for (Bid before : plan.set) {
            index += before.number < bid ? before.wishes.size() : 0;
        }
        return plan.given.get(index);
    }

    public int payment(int bid) {
        Bid known = open(bid);
        Plan plan = bestPlan(-1);
        need(plan.set.contains(known), new UnsupportedOperationException());
        return known.price - plan.surplus + bestPlan(known.bidder).surplus;
    }

    public long takings() {
        return takings;
    }

    public float soldShare() {
        need(!lots.isEmpty(), new ArithmeticException());
        return (float) lots.stream().filter(lot -> lot.state == 's').count() / (float) lots.size();
    }

    public double meanPaid() {
        long won = bids.stream().filter(bid -> bid.state == 'w').count();
        need(won > 0, new ArithmeticException());
        return (double) takings / (double) won;
    }

    private static void need(boolean holds, RuntimeException otherwise) {
        if (!holds) {
            throw otherwise;
        }
    }

    private static boolean fibreOk(int fibre) {
        return fibre >= 0 && fibre <= 3;
    }

    private static boolean gradeOk(char grade) {
        return "abcde".indexOf(grade) >= 0;
    }

    private Lot lot(int lot) {
        need(lot >= 0 && lot < lots.size(), new NoSuchElementException());
        return lots.get(lot);
    }

    private Bid known(int bid) {
        need(bid >= 0 && bid < bids.size(), new NoSuchElementException());
        return bids.get(bid);
    }

    private Bid open(int bid) {
        need(known(bid).state == 'o', new IllegalStateException());
        return known(bid);
    }

    private List<Bid> openList() {
        return bids.stream().filter(bid -> bid.state == 'o').toList();
    }

    private static int[] wish(Bid bid, int item) {
        need(item >= 0 && item < bid.wishes.size(), new IndexOutOfBoundsException());
        return bid.wishes.get(item);
    }

    private boolean fit(Lot lot, int[] wish) {
        boolean fits = lot.fibre == wish[0] && lot.grade <= wish[1];
        for (int[] rule : rules) {
            fits |= rule[0] == wish[0] && rule[1] == lot.fibre && lot.grade + rule[2] <= wish[1];
        }
        return fits;
    }

    private Plan bestPlan(int withoutBidder) {
        List<Bid> open = openList().stream().filter(bid -> bid.bidder != withoutBidder).toList();
        return plans.computeIfAbsent(withoutBidder, key -> bestOf(open, 0));
    }

    private Plan alone(Bid bid) {
        return bid.wishes.isEmpty() ? null : bestOf(List.of(bid), 1);
    }

    private Plan bestOf(List<Bid> from, int atLeast) {
        best = null;
        tryBids(from, 0, atLeast, new ArrayList<>(), new ArrayList<>(), 0);
        return best;
    }

    private void tryBids(List<Bid> from, int next, int atLeast, List<Bid> set, List<Integer> given, int surplus) {
        if (next == from.size()) {
            if (set.size() >= atLeast) {
                compare(set, given, surplus);
            }
            return;
        }
        tryBids(from, next + 1, atLeast, set, given, surplus);
        Bid bid = from.get(next);
        if (!bid.wishes.isEmpty() && set.stream().noneMatch(other -> other.bidder == bid.bidder)) {
            set.add(bid);
            tryItems(from, next, 0, atLeast, set, given, surplus + bid.price);
            set.remove(set.size() - 1);
        }
    }

    private void tryItems(List<Bid> from, int next, int item, int atLeast, List<Bid> set, List<Integer> given,
            int surplus) {
        Bid bid = from.get(next);
        if (item == bid.wishes.size()) {
            tryBids(from, next + 1, atLeast, set, given, surplus);
            return;
        }
        for (int i = 0; i < lots.size(); i++) {
            Lot lot = lots.get(i);
            if (lot.state == 'o' && !given.contains(i) && fit(lot, bid.wishes.get(item))) {
                given.add(i);
                tryItems(from, next, item + 1, atLeast, set, given, surplus - lot.reserve);
                given.remove(given.size() - 1);
            }
        }
    }

    private void compare(List<Bid> set, List<Integer> given, int surplus) {
        if (best == null || surplus > best.surplus || surplus == best.surplus && isBetter(set, given)) {
            best = new Plan();
            best.set.addAll(set);
            best.given.addAll(given);
            best.surplus = surplus;
        }
    }

    private boolean isBetter(List<Bid> set, List<Integer> given) {
        for (Bid bid : bids) {
            if (set.contains(bid) != best.set.contains(bid)) {
                return set.contains(bid);
            }
        }
        int at = Arrays.mismatch(given.stream().mapToInt(i -> i).toArray(),
                best.given.stream().mapToInt(i -> i).toArray());
        return at >= 0 && given.get(at) < best.given.get(at);
    }
}
