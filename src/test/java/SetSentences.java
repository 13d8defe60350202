/** Sets of bids: the first words of the terms, "Sets of bids", and promises 30 to 33. */
final class SetSentences extends Sentences {
    private static final String SETS = "Sets of bids";

    SetSentences(Book book) {
        super(book);
    }

    @Override
    void test() {
        firstWordsOfTheTerms();
        oneBidOfEachBidder();
        itemsWithLots();
        leastCost();
        surplusOfASet();
        emptySet();
        bestOfTwo();
        lotsOfASet();
        costOf();
        costOfRefused();
        surplus();
        surplusWithout();
    }

    private static void surplusIs(Claim claim, String past, int due) {
        claim.after(past).answers("surplus", due).answers("surplusBySets", due);
    }

    private static void wins(Claim claim, String past, int... winners) {
        Scene scene = claim.after(past);
        Scene closed = claim.after(past + "; close");
        int bids = Stage.ofMarket(past).count("bids");
        for (int bid = 0; bid < bids; bid++) {
            boolean due = false;
            for (int winner : winners) {
                due |= winner == bid;
            }
            scene.answers("wouldWin " + bid, due).answers("wouldWinBySets " + bid, due);
            closed.answers("stateOf " + bid, due ? 'w' : 'l');
        }
    }

    /** The lots of a bid's items before and after a closing. */
    private static void gives(Claim claim, String past, int bid, int... lots) {
        for (int item = 0; item < lots.length; item++) {
            claim.after(past).answers("lotFor " + bid + " " + item, lots[item]);
            claim.after(past + "; close").answers("lotOf " + bid + " " + item, lots[item])
                    .answers("soldTo " + lots[item], bid);
        }
    }

    private void firstWordsOfTheTerms() {
        Claim several = term("Terms", "Lots are offered with a grade and a reserve price, bids ask for several lots at"
                + " once, better grades and other fibres may stand in, and a closing sells lots to the set of bids"
                + " with the greatest surplus.");
        String past = "offer 0 a 10; offer 1 b 20; allow 0 1 1; bid 0 100 0c 0c; bid 1 40 0c; bid 2 41 0c";
        surplusIs(several, past, 70);
        wins(several, past, 0);
        several.after(past).answers("close", 2);
        Claim twoWays = term("Terms", "The greatest surplus is found by branch and bound and by going through all sets"
                + " of bids.");
        surplusIs(twoWays, EIGHT_WINNERS, 40);
        surplusIs(twoWays, EIGHT_WINNERS + "; withdraw 0", 35);
        surplusIs(twoWays, EIGHT_THREES, 27);
        wins(twoWays, EIGHT_THREES, 6, 7);
        surplusIs(twoWays, "4 x offer 0 b 7; 4 x offer 1 d 9; allow 1 0 1; bid 0 90 0c 1d 1e; bid 1 80 0c 0b 0b; "
                + "bid 2 70 1d 1d; bid 3 31 1d; bid 4 30 0e; bid 5 45 0b 1e; bid 5 46 0b 1d; bid 7 200 0a", 176);
        Claim once = term("Terms", "No lot is sold twice.");
        once.after("offer 0 a 0; bid 0 5 0a; bid 1 5 0a").answers("close", 1);
        once.after("offer 0 a 0; bid 0 5 0a 0a").answers("close", 0);
        once.after("offer 0 a 0; bid 0 5 0a; close; bid 1 9 0a").answers("close", 0);
        once.after("offer 0 a 0; bid 0 5 0a; close; bid 1 9 0a; close").answers("soldTo 0", 0)
                .answers("stateOf 1", 'l');
    }

    private Claim possible() {
        return term(SETS, "A set of open bids is possible if it has at most one bid of each bidder, each of its bids"
                + " has at least one item, and each item of its bids can be given an open lot that fits it, no two"
                + " the same lot.");
    }

    private void oneBidOfEachBidder() {
        Claim claim = possible();
        String lots = "offer 0 a 0; offer 1 a 0; ";
        surplusIs(claim, lots + "bid 0 30 0a; bid 0 40 1a", 40);
        surplusIs(claim, lots + "bid 7 40 0a; bid 7 30 1a", 40);
        surplusIs(claim, lots + "bid 0 30 0a; bid 1 40 1a", 70);
        surplusIs(claim, lots + "bid 0 30 0a; bid 1 40 1a; bid 0 35 0a", 75);
        surplusIs(claim, EIGHT_LOTS + "; 7 x bid 3 5; ask 0 0 a; ask 6 0 a; bid 4 6 0a", 11);
    }

    private void itemsWithLots() {
        Claim claim = possible();
        surplusIs(claim, "offer 0 a 0; bid 0 9999", 0);
        surplusIs(claim, "offer 0 a 0; bid 0 9999; bid 1 5 0a", 5);
        wins(claim, "offer 0 a 0; bid 0 0; bid 1 5 0a", 1);
        surplusIs(claim, "offer 0 b 0; bid 0 7 0b", 7);
        surplusIs(claim, "offer 0 c 0; bid 0 7 0b", 0);
        surplusIs(claim, "offer 1 b 0; bid 0 7 0b", 0);
        surplusIs(claim, "bid 0 7 0e", 0);
        surplusIs(claim, "offer 0 a 0; bid 0 7 0a 0a", 0);
        surplusIs(claim, "offer 0 a 0; offer 0 a 0; bid 0 7 0a 0a", 7);
        surplusIs(claim, "offer 0 a 0; offer 0 a 0; bid 0 7 0a 0a 0a", 0);
        surplusIs(claim, "offer 0 a 0; offer 0 a 0; offer 0 a 0; bid 0 7 0a 0a 0a", 7);
        surplusIs(claim, "offer 0 a 0; bid 0 7 0a; bid 1 6 0a", 7);
        surplusIs(claim, "offer 0 a 0; offer 0 a 0; bid 0 7 0a; bid 1 6 0a", 13);
        surplusIs(claim, "offer 0 a 0; offer 0 c 0; bid 0 7 0c; bid 1 6 0a", 13);
        surplusIs(claim, "offer 0 a 0; offer 0 c 0; bid 0 7 0c 0a", 7);
        surplusIs(claim, "offer 0 b 0; offer 0 c 0; bid 0 7 0b 0b", 0);
        surplusIs(claim, "offer 0 a 0; bid 0 7 0a; withdraw 0", 0);
        surplusIs(claim, "offer 0 a 0; bid 0 7 0a; cancel 0", 0);
        surplusIs(claim, "offer 0 a 0; bid 0 7 0a; close", 0);
        String threes = EIGHT_LOTS + "; bid 0 6 0a 0a 0a; bid 1 7 0a 0a 0a; ";
        surplusIs(claim, threes + "bid 2 8 0a 0a 0a", 15);
        surplusIs(claim, threes + "bid 2 8 0a 0a", 21);
        surplusIs(claim, threes + "bid 2 8 0a 0a; withdraw 4", 15);
    }

    private void leastCost() {
        Claim claim = term(SETS, "The cost of a possible set is the least sum of the reserves of the lots that can be"
                + " given so.");
        claim.after("offer 0 a 0; bid 0 9 0a").answers("costOf 0", 0);
        claim.after("3 x offer 0 a 999; bid 0 0 0a 0a 0a").answers("costOf 0", 2997);
        claim.after("offer 0 a 6; offer 0 b 5; offer 0 c 4; bid 0 0 0b").answers("costOf 0", 5);
        claim.after("offer 0 a 10; offer 0 c 20; bid 0 0 0c 0a").answers("costOf 0", 30);
        String lots = "offer 0 a 1; offer 0 c 2; offer 1 a 100; allow 1 0 0; ";
        claim.after(lots + "bid 0 0 0c 1a").answers("costOf 0", 3);
        claim.after(lots + "bid 0 0 1a 0c").answers("costOf 0", 3);
        claim.after(lots + "bid 0 0 0c 1a; withdraw 1").answers("costOf 0", 101);
        surplusIs(claim, lots + "bid 0 500 0c; bid 1 500 1a", 997);
        surplusIs(claim, lots + "bid 0 500 1a; bid 1 500 0c", 997);
        surplusIs(claim, "7 x offer 0 a 999; offer 0 a 0; bid 0 3000 0a 0a 0a; bid 1 3000 0a 0a 0a; bid 2 3000 0a 0a",
                2007);
    }

    private void surplusOfASet() {
        Claim claim = term(SETS, "Its surplus is the sum of the prices of its bids minus its cost.");
        surplusIs(claim, "offer 0 a 10; bid 0 9 0a", 0);
        surplusIs(claim, "offer 0 a 10; bid 0 10 0a", 0);
        surplusIs(claim, "offer 0 a 10; bid 0 11 0a", 1);
        surplusIs(claim, "offer 0 a 10; offer 0 a 30; bid 0 50 0a; bid 1 60 0a", 70);
        surplusIs(claim, "offer 0 a 10; offer 0 a 30; bid 0 50 0a; bid 1 29 0a", 40);
        String dear = "bid 0 9999 0a; bid 1 9999 0a; bid 2 9999 0a; bid 3 9999 0a; bid 4 9999 0a; bid 5 9999 0a; "
                + "bid 6 9999 0a; bid 7 9999 0a";
        surplusIs(claim, "8 x offer 0 a 999; " + dear, 72000);
        surplusIs(claim, EIGHT_LOTS + "; " + dear, 79992);
    }

    private void emptySet() {
        Claim claim = term(SETS, "The empty set is possible, with the surplus 0.");
        surplusIs(claim, "", 0);
        surplusIs(claim, EIGHT_LOTS, 0);
        surplusIs(claim, EIGHT_BIDS, 0);
        surplusIs(claim, "offer 0 a 999; bid 0 998 0a; bid 1 0 0a", 0);
        wins(claim, "offer 0 a 999; bid 0 998 0a; bid 1 0 0a");
        claim.after("offer 0 a 0; bid 3 9 0a; bid 3 8 0a").answers("surplusWithout 3", 0);
    }

    private void bestOfTwo() {
        Claim claim = term(SETS, "The best set is the possible set with the greatest surplus; of several, let them be"
                + " compared in pairs: the one that has the bid with the lowest number of those that only one of both"
                + " has.");
        wins(claim, "offer 0 a 10; bid 0 20 0a; bid 1 20 0a", 0);
        wins(claim, "offer 0 a 10; bid 0 20 0a; bid 1 21 0a", 1);
        wins(claim, "offer 0 a 0; offer 0 a 0; bid 3 5 0a; bid 3 5 0a", 0);
        String two = "offer 0 a 0; offer 0 a 0; ";
        wins(claim, two + "bid 0 10 0a 0a; bid 1 5 0a; bid 2 5 0a", 0);
        wins(claim, two + "bid 0 10 0a 0a; bid 1 5 0a; bid 2 6 0a", 1, 2);
        wins(claim, two + "bid 0 5 0a; bid 1 10 0a 0a; bid 2 5 0a", 0, 2);
        wins(claim, two + "bid 0 5 0a; bid 1 11 0a 0a; bid 2 5 0a", 1);
        wins(claim, two + "bid 0 5 0a; bid 1 5 0a; bid 2 10 0a 0a", 0, 1);
        wins(claim, two + "bid 0 4 0a; bid 1 10 0a 0a; bid 2 5 0a; bid 3 5 0a", 1);
        String apart = "offer 0 a 0; offer 1 a 0; ";
        wins(claim, apart + "bid 0 5 0a; bid 1 5 1a; bid 2 5 1a", 0, 1);
        wins(claim, apart + "bid 0 5 0a; bid 1 5 0a; bid 2 5 1a; bid 3 5 1a", 0, 2);
        wins(claim, apart + "bid 0 5 0a; bid 1 5 0a; bid 0 5 1a; bid 1 5 1a", 0, 3);
        wins(claim, apart + "bid 0 5 0a; bid 1 6 0a; bid 0 5 1a; bid 1 5 1a", 1, 2);
        wins(claim, "offer 0 a 10; bid 0 10 0a", 0);
        wins(claim, "offer 0 a 10; bid 0 9 0a");
        wins(claim, "offer 0 a 0; bid 0 0 0a; bid 1 0 0a", 0);
        wins(claim, "offer 0 a 0; bid 0 0 0a; bid 1 1 0a", 1);
        wins(claim, "offer 0 a 10; offer 1 a 3; bid 0 10 0a; bid 1 9 1a; bid 2 3 1a", 0, 1);
        wins(claim, "offer 0 a 10; offer 1 a 3; bid 0 9 1a; bid 1 10 0a", 0, 1);
        claim.after("offer 0 a 0; bid 0 5; close; bid 1 5 0a; bid 0 5 0a").answers("wouldWin 1", true)
                .answers("wouldWinBySets 1", true).answers("wouldWin 2", false).answers("wouldWinBySets 2", false);
    }

    private void lotsOfASet() {
        Claim claim = term(SETS, "The lots of a set are given in the way with the least sum of reserves; of several"
                + " ways, the one that gives the lot with the lower number to the first item that gets different lots,"
                + " where items come by the numbers of their bids and then in their order.");
        gives(claim, "offer 0 a 5; bid 0 9 0a", 0, 0);
        gives(claim, "3 x offer 0 a 5; bid 0 99 0a 0a", 0, 0, 1);
        gives(claim, "offer 0 a 6; offer 0 a 5; bid 0 99 0a", 0, 1);
        gives(claim, "offer 0 a 5; offer 0 a 6; bid 0 99 0a", 0, 0);
        gives(claim, "offer 0 a 6; offer 0 a 5; offer 0 a 5; bid 0 99 0a 0a", 0, 1, 2);
        String past = "2 x offer 0 a 5; bid 0 9 0a; bid 1 99 0a";
        gives(claim, past, 0, 0);
        gives(claim, past, 1, 1);
        gives(claim, "offer 0 a 5; offer 0 c 5; bid 0 99 0c 0a", 0, 1, 0);
        gives(claim, "offer 0 c 5; offer 0 a 5; bid 0 99 0a 0c", 0, 1, 0);
        gives(claim, "offer 0 a 5; offer 0 c 7; offer 0 b 7; bid 0 99 0c 0a", 0, 1, 0);
        gives(claim, "offer 0 a 3; offer 0 c 4; offer 1 a 4; allow 1 0 0; bid 0 99 0c 1a", 0, 0, 2);
        gives(claim, "offer 0 a 3; offer 0 c 4; offer 1 a 4; allow 1 0 0; bid 0 99 1a 0c", 0, 0, 1);
        gives(claim, "offer 0 a 3; offer 0 c 3; offer 1 a 4; allow 1 0 0; bid 0 99 0c 1a", 0, 1, 0);
        past = "offer 0 a 5; offer 0 a 5; bid 0 20 0a; bid 1 6 0a; bid 2 20 0a";
        gives(claim, past, 0, 0);
        gives(claim, past, 2, 1);
        past = "4 x offer 0 a 5; bid 0 40 0a 0a; bid 1 9 0a 0a 0a; bid 2 20 0a; bid 3 3 0a; bid 4 20 0a";
        gives(claim, past, 0, 0, 1);
        gives(claim, past, 2, 2);
        gives(claim, past, 4, 3);
        past = EIGHT_LOTS + "; bid 5 9 0a 0a 0a; bid 4 9 0a 0a; bid 3 9 0a 0a 0a";
        gives(claim, past, 0, 0, 1, 2);
        gives(claim, past, 1, 3, 4);
        gives(claim, past, 2, 5, 6, 7);
        gives(claim, EIGHT_THREES, 6, 4, 6, 0);
        gives(claim, EIGHT_THREES, 7, 7, 1, 2);
        gives(claim, MIXED, 8, 3, 2);
    }

    private void costOf() {
        Claim claim = says(30, "Returns the cost of the set of a bid alone.", "Returns the cost.");
        claim.after("offer 0 a 5; offer 0 a 50; bid 0 99 0a; bid 1 98 0a; bid 1 0 0a").answers("costOf 0", 5)
                .answers("costOf 1", 5).answers("costOf 2", 5);
        claim.after("offer 0 a 0; bid 0 0 0a").answers("costOf 0", 0);
        claim.after("3 x offer 0 a 999; bid 0 9999 0a 0a 0a").answers("costOf 0", 2997);
        claim.after(EIGHT_WINNERS).answers("costOf 7", 0);
        claim.after(MIXED).answers("costOf 8", 35).answers("costOf 9", 30);
        claim.after(MIXED + "; withdraw 3; offer 0 c 999").answers("costOf 8", 1029);
    }

    private void costOfRefused() {
        Claim none = refusal(30, NO_SUCH, NO_BID);
        none.afterNothing().refuses("costOf 0", "costOf -1");
        none.after(MIXED).refuses(each("costOf %", NO_BIDS_OF_MIXED));
        refusal(30, STATE, NOT_OPEN).after(MIXED).refuses(each("costOf %", "0", "1", "2", "3", "4", "5", "6", "7"));
        Claim impossible = refusal(30, UNSUPPORTED, "this set is not possible");
        impossible.after("offer 0 a 0; bid 0 9").refuses("costOf 0");
        impossible.after("bid 0 9 0a").refuses("costOf 0");
        impossible.after("offer 0 b 0; bid 0 9 0a").refuses("costOf 0");
        impossible.after("offer 0 b 0; bid 0 9 0b").answers("costOf 0", 0);
        impossible.after("offer 1 a 0; bid 0 9 0e").refuses("costOf 0");
        impossible.after("offer 0 a 0; bid 0 9 0a 0a").refuses("costOf 0");
        impossible.after("2 x offer 0 a 0; bid 0 9 0a 0a").answers("costOf 0", 0);
        impossible.after("2 x offer 0 a 0; bid 0 9 0a 0a 0a").refuses("costOf 0");
        impossible.after("offer 0 a 0; bid 0 9 0a; withdraw 0").refuses("costOf 0");
        impossible.after(EIGHT_LOTS + "; bid 0 9 0a 0a 1a").refuses("costOf 0");
    }

    private void surplus() {
        for (int promise = 31; promise <= 32; promise++) {
            String method = promise == 31 ? "surplus" : "surplusBySets";
            String words = promise == 31 ? "Returns the surplus of the best set, found by branch and bound."
                    : "Returns the same as surplus, found by going through all sets of open bids.";
            Claim claim = says(promise, words, "Returns the surplus.");
            claim.afterNothing().answers(method, 0);
            claim.after(EIGHT_LOTS).answers(method, 0);
            claim.after(EIGHT_BIDS).answers(method, 0);
            claim.after("bid 0 9999 0e").answers(method, 0);
            claim.after("offer 0 a 10; bid 0 9 0a").answers(method, 0);
            claim.after("offer 0 a 10; bid 0 10 0a").answers(method, 0);
            claim.after("offer 0 a 10; bid 0 11 0a").answers(method, 1);
            claim.after("offer 0 a 0; bid 0 9999 0a").answers(method, 9999);
            claim.after(EIGHT_WINNERS).answers(method, 40);
            claim.after(EIGHT_WINNERS + "; close").answers(method, 0);
            claim.after(EIGHT_WINNERS + "; cancel 0; cancel 7").answers(method, 30);
            claim.after(EIGHT_THREES).answers(method, 27);
            claim.after(EIGHT_THREES + "; raise 0 9999").answers(method, 10010);
            claim.after(MIXED).answers(method, 165);
            claim.after(MIXED + "; cancel 8").answers(method, 6);
        }
    }

    private void surplusWithout() {
        Claim claim = says(33, "Returns the surplus of the best set among those without any bid of a bidder, found by"
                + " branch and bound.", "Returns the surplus.");
        claim.afterNothing().answers("surplusWithout 0", 0).answers("surplusWithout 7", 0);
        claim.after(EIGHT_WINNERS).answers("surplusWithout 0", 35).answers("surplusWithout 7", 35);
        claim.after(EIGHT_THREES).answers("surplusWithout 0", 27).answers("surplusWithout 7", 25);
        claim.after("offer 0 a 0; 8 x bid 3 5; ask 0 0 a; ask 7 0 a").answers("surplusWithout 3", 0)
                .answers("surplusWithout 2", 5).answers("surplusWithout 4", 5);
        claim.after("offer 0 a 10; bid 0 100 0a; bid 1 70 0a; bid 0 95 0a").answers("surplusWithout 0", 60)
                .answers("surplusWithout 1", 90).answers("surplusWithout 2", 90);
        claim.after(MIXED).answers("surplusWithout 0", 6).answers("surplusWithout 1", 165);
        refusal(33, ARGUMENT, "the bidder is out of range").after(MIXED)
                .refuses(each("surplusWithout %", OFF_BIDDERS));
        refusal(33, ARGUMENT, "the bidder is out of range").afterNothing()
                .refuses("surplusWithout -1", "surplusWithout 8");
    }
}
