/** What a closing would do: "Payments" of the terms, promises 34 to 37. */
final class WinSentences extends Sentences {
    private static final String[] CLOSED = {"0", "1", "2", "3", "4", "5", "6", "7"};

    WinSentences(Book book) {
        super(book);
    }

    @Override
    void test() {
        payments();
        wouldWin(34, "wouldWin", "Returns whether a bid would win if the market were closed now, found by branch and"
                + " bound.");
        wouldWin(35, "wouldWinBySets", "Returns the same as wouldWin, found by going through all sets of open bids.");
        lotFor();
        lotForRefused();
        payment();
        paymentRefused();
    }

    /** What a bid would pay, and what it pays. */
    private static void pays(Claim claim, String past, int bid, int due) {
        claim.after(past).answers("payment " + bid, due);
        claim.after(past + "; close").answers("paid " + bid, due);
    }

    private void payments() {
        Claim claim = term("Payments", "The payment of a bid of the best set is its price minus the surplus of the"
                + " best set, plus the surplus of the best set among the sets without any bid of its bidder.");
        pays(claim, "offer 0 a 0; bid 0 9999 0a", 0, 0);
        pays(claim, "offer 0 a 10; bid 0 10 0a", 0, 10);
        pays(claim, "offer 0 a 10; bid 0 11 0a", 0, 10);
        pays(claim, "offer 0 a 10; bid 0 50 0a; bid 1 50 0a", 0, 50);
        pays(claim, "offer 0 a 10; bid 0 50 0a; bid 1 49 0a", 0, 49);
        pays(claim, "offer 0 a 10; bid 0 50 0a; bid 1 11 0a", 0, 11);
        pays(claim, "offer 0 a 10; bid 0 50 0a; bid 1 10 0a", 0, 10);
        pays(claim, "offer 0 a 10; bid 0 50 0a; bid 1 9 0a", 0, 10);
        pays(claim, "offer 0 a 10; bid 0 49 0a; bid 1 9999; bid 2 50 0a", 2, 49);
        pays(claim, "offer 0 a 10; bid 0 50 0a; bid 0 49 0a", 0, 10);
        pays(claim, "offer 0 a 10; bid 0 50 0a; bid 0 49 0a; bid 1 30 0a", 0, 30);
        pays(claim, "offer 0 a 10; offer 1 a 0; bid 0 50 0a; bid 0 49 1a; bid 1 30 1a", 0, 10);
        pays(claim, "offer 0 a 9; offer 1 a 0; bid 0 60 0a 1a; bid 1 30 1a; bid 2 20 0a", 0, 50);
        pays(claim, "offer 0 a 0; offer 0 a 0; bid 0 100 0a 0a; bid 1 80 0a; bid 2 70 0a", 1, 30);
        pays(claim, "offer 0 a 0; offer 0 a 0; bid 0 100 0a 0a; bid 1 80 0a; bid 2 70 0a", 2, 20);
        pays(claim, "offer 0 a 0; bid 0 9999 0a; bid 1 9999 0a", 0, 9999);
        for (int bid = 0; bid < 8; bid++) {
            pays(claim, EIGHT_WINNERS, bid, 0);
        }
        pays(claim, EIGHT_THREES, 6, 15);
        pays(claim, EIGHT_THREES, 7, 15);
        for (int bid = 0; bid < 3; bid++) {
            pays(claim, "3 x offer 0 a 1; bid 0 7 0a; bid 1 7 0a; bid 2 7 0a; bid 3 6 0a", bid, 6);
        }
    }

    private void wouldWin(int promise, String method, String words) {
        Claim claim = says(promise, words, "Returns true if it would.");
        claim.after("offer 0 a 10; bid 0 9 0a").answers(method + " 0", false);
        claim.after("offer 0 a 10; bid 0 10 0a").answers(method + " 0", true);
        claim.after("offer 0 a 10; bid 0 9999").answers(method + " 0", false);
        claim.after("bid 0 9999 0a").answers(method + " 0", false);
        claim.after("offer 0 a 10; bid 0 20 0a; bid 1 20 0a").answers(method + " 0", true)
                .answers(method + " 1", false);
        claim.after("offer 0 a 10; bid 0 20 0a; bid 1 21 0a").answers(method + " 0", false)
                .answers(method + " 1", true);
        claim.after(EIGHT_WINNERS).answers(method + " 0", true).answers(method + " 7", true);
        claim.after(EIGHT_WINNERS + "; withdraw 7").answers(method + " 6", true).answers(method + " 7", false);
        claim.after(MIXED).answers(method + " 8", true).answers(method + " 9", false);
        Claim none = refusal(promise, NO_SUCH, NO_BID);
        none.afterNothing().refuses(method + " 0", method + " -1");
        none.after(MIXED).refuses(each(method + " %", NO_BIDS_OF_MIXED));
        refusal(promise, STATE, NOT_OPEN).after(MIXED).refuses(each(method + " %", CLOSED));
    }

    private void lotFor() {
        Claim claim = says(36, "Returns the lot that an item of a bid would get if the market were closed now.",
                "Returns the lot.");
        claim.after("offer 0 a 10; bid 0 10 0a").answers("lotFor 0 0", 0);
        claim.after(MIXED).answers("lotFor 8 0", 3).answers("lotFor 8 1", 2);
        claim.after(MIXED + "; offer 0 c 5; ask 8 0 c").answers("lotFor 8 0", 3).answers("lotFor 8 1", 2)
                .answers("lotFor 8 2", 5);
        claim.after(EIGHT_WINNERS).answers("lotFor 0 0", 0).answers("lotFor 7 0", 7);
        claim.after(withdrawnLots(39) + "offer 3 e 999; bid 0 999 3e").answers("lotFor 0 0", 39);
        claim.after("offer 0 a 10; bid 0 10 0a; lotFor 0 0").answers("lotState 0", 'o').answers("stateOf 0", 'o')
                .refuses(STATE, "soldTo 0");
    }

    private void lotForRefused() {
        Claim none = refusal(36, NO_SUCH, NO_BID);
        none.afterNothing().refuses("lotFor 0 0");
        none.after(MIXED).refuses(each("lotFor % 0", NO_BIDS_OF_MIXED));
        refusal(36, INDEX, NO_ITEM).after(MIXED).refuses("lotFor 8 2", "lotFor 8 -1", "lotFor 8 2147483647",
                "lotFor 8 -2147483648", "lotFor 9 1", "lotFor 0 1", "lotFor 3 0", "lotFor 7 1")
                .answers("lotFor 8 1", 2);
        refusal(36, INDEX, NO_ITEM).after("offer 0 a 0; bid 0 0").refuses("lotFor 0 0", "lotFor 0 -1");
        refusal(36, INDEX, NO_ITEM).after("3 x offer 0 a 0; bid 0 0 0a 0a 0a").refuses("lotFor 0 3")
                .answers("lotFor 0 2", 2);
        refusal(36, STATE, NOT_OPEN).after(MIXED).refuses(each("lotFor % 0", "0", "1", "2", "4", "5", "6", "7"));
        Claim loser = refusal(36, UNSUPPORTED, "the bid would not win");
        loser.after(MIXED).refuses("lotFor 9 0");
        loser.after("offer 0 a 10; bid 0 9 0a").refuses("lotFor 0 0");
        loser.after("bid 0 9 0a").refuses("lotFor 0 0");
        loser.after("offer 0 a 10; bid 0 20 0a; bid 1 20 0a").refuses("lotFor 1 0").answers("lotFor 0 0", 0);
        loser.after(EIGHT_WINNERS + "; withdraw 6").refuses("lotFor 7 0").answers("lotFor 6 0", 7);
    }

    private void payment() {
        Claim claim = says(37, "Returns what a bid would pay if the market were closed now.",
                "Returns the payment.");
        claim.after("offer 0 a 0; bid 0 0 0a").answers("payment 0", 0);
        claim.after("offer 0 a 999; bid 0 9999 0a").answers("payment 0", 999);
        claim.after("offer 0 a 999; bid 0 9999 0a; bid 1 9999 0a").answers("payment 0", 9999);
        claim.after(MIXED).answers("payment 8", 41);
        claim.after(MIXED + "; cancel 9").answers("payment 8", 35);
        claim.after(EIGHT_WINNERS).answers("payment 0", 0).answers("payment 7", 0);
        claim.after("offer 0 a 0; bid 0 5 0a; payment 0").answers("takings", 0L).answers("stateOf 0", 'o')
                .refuses(STATE, "paid 0");
    }

    private void paymentRefused() {
        Claim none = refusal(37, NO_SUCH, NO_BID);
        none.afterNothing().refuses("payment 0", "payment -1");
        none.after(MIXED).refuses(each("payment %", NO_BIDS_OF_MIXED));
        refusal(37, STATE, NOT_OPEN).after(MIXED).refuses(each("payment %", CLOSED));
        Claim loser = refusal(37, UNSUPPORTED, "the bid would not win");
        loser.after(MIXED).refuses("payment 9");
        loser.after("offer 0 a 10; bid 0 9 0a").refuses("payment 0");
        loser.after("offer 0 a 10; bid 0 10 0a").answers("payment 0", 10);
        loser.after("offer 0 a 10; bid 0 9999").refuses("payment 0");
        loser.after("bid 0 9 0a").refuses("payment 0");
        loser.after("offer 0 a 10; bid 0 20 0a; bid 1 20 0a").refuses("payment 1").answers("payment 0", 20);
        loser.after(EIGHT_WINNERS + "; withdraw 6").refuses("payment 7").answers("payment 6", 5);
    }
}
