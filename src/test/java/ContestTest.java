import java.util.Random;

/**
 * Full markets in which bids contend for lots, by fixed seeds: every question about every bid and lot,
 * a closing, and every question about what it did, answered as the model does.
 */
public final class ContestTest {
    private static final int RUNS = 700;

    private final Random random;
    private final Twin twin;
    private final int fibres;
    private final int step;
    private final int mostItems;

    private ContestTest(Check check, int seed) {
        random = new Random(seed);
        twin = new Twin(check, "contest " + seed);
        fibres = 1 + seed % 3;
        // A wide step makes many sums the same, so that the rules for ties decide.
        step = new int[] {1, 10, 50}[seed / 3 % 3];
        mostItems = 1 + seed / 9 % 3;
    }

    public static void main(String[] args) {
        Check check = new Check();
        for (int seed = 0; seed < RUNS; seed++) {
            new ContestTest(check, seed).run();
        }
        check.end();
    }

    private void run() {
        while (twin.goesOn()) {
            int firstBid = twin.model.bids();
            fill();
            ask(firstBid);
            twin.call("close");
            look(firstBid);
        }
    }

    private void fill() {
        for (int lots = 4 + random.nextInt(5); lots > 0; lots--) {
            twin.call("offer", random.nextInt(fibres), grade(), step * random.nextInt(200 / step));
        }
        if (random.nextBoolean()) {
            twin.call("allow", random.nextInt(fibres), random.nextInt(3), random.nextInt(3));
        }
        for (int bids = 4 + random.nextInt(5); bids > 0; bids--) {
            Object bid = twin.call("bid", random.nextInt(8), step * random.nextInt(400 / step));
            for (int items = random.nextInt(12) == 0 ? 0 : 1 + random.nextInt(mostItems); items > 0; items--) {
                twin.call("ask", bid instanceof Integer ? bid : 0, random.nextInt(fibres), grade());
            }
        }
    }

    private char grade() {
        return (char) ('a' + random.nextInt(5));
    }

    private void ask(int firstBid) {
        twin.call("surplus");
        twin.call("surplusBySets");
        for (int bidder = 0; bidder < 8; bidder++) {
            twin.call("surplusWithout", bidder);
        }
        for (int bid = firstBid; bid < twin.model.bids() && twin.goesOn(); bid++) {
            twin.call("wouldWin", bid);
            twin.call("wouldWinBySets", bid);
            twin.call("payment", bid);
            twin.call("costOf", bid);
            for (int item = 0; item < twin.model.items(bid); item++) {
                twin.call("fitting", bid, item);
                twin.call("lotFor", bid, item);
            }
        }
    }

    private void look(int firstBid) {
        twin.call("openLots");
        twin.call("openBids");
        twin.call("takings");
        twin.call("meanPaid");
        twin.call("soldShare");
        for (int bid = firstBid; bid < twin.model.bids() && twin.goesOn(); bid++) {
            twin.call("stateOf", bid);
            twin.call("reason", bid);
            twin.call("rival", bid);
            twin.call("paid", bid);
            for (int item = 0; item < twin.model.items(bid); item++) {
                twin.call("lotOf", bid, item);
            }
        }
        for (int lot = 0; lot < twin.model.lots() && twin.goesOn(); lot++) {
            twin.call("lotState", lot);
            twin.call("soldTo", lot);
        }
    }
}
