/** Bids: "Bids" of the terms, promises 6 to 9, 12, 14, 21, 24 and 25. */
final class BidSentences extends Sentences {
    BidSentences(Book book) {
        super(book);
    }

    @Override
    void test() {
        bidsOfTheTerms();
        numbersOfTheTerms();
        openOfTheTerms();
        bid();
        bidRefused();
        ask();
        askRefused();
        raise();
        raiseRefused();
        cancel();
        counts();
        items();
        priceOf();
        stateOf();
    }

    private void bidsOfTheTerms() {
        Claim claim = term("Bids", "A bid has a bidder from 0 to 7, a price from 0 to 9999, and up to 3 items in the"
                + " order in which they were added.");
        for (int bidder = 0; bidder <= 7; bidder++) {
            claim.after("offer 0 a 0; bid " + bidder + " 5 0a").answers("surplusWithout " + bidder, 0)
                    .answers("surplusWithout " + (bidder + 1) % 8, 5).answers("surplusWithout " + (bidder + 7) % 8, 5);
        }
        for (int price : new int[] {0, 1, 255, 256, 9998, 9999}) {
            claim.after("bid 0 " + price).answers("priceOf 0", price);
        }
        claim.afterNothing().refuses(ARGUMENT, "bid -1 0").refuses(ARGUMENT, "bid 8 0")
                .refuses(ARGUMENT, "bid 0 -1").refuses(ARGUMENT, "bid 0 10000");
        String lots = "offer 0 a 0; offer 1 a 0; offer 2 a 0; ";
        claim.after(lots + "bid 0 0 1a 2a 0a").answers("fits 1 0 0", true).answers("fits 2 0 1", true)
                .answers("fits 0 0 2", true).answers("fits 0 0 0", false).answers("lotFor 0 0", 1)
                .answers("lotFor 0 1", 2).answers("lotFor 0 2", 0).refuses(STATE, "ask 0 0 a");
        claim.after(lots + "bid 0 0 1a 1a").answers("ask 0 1 a", 3);
    }

    private void numbersOfTheTerms() {
        Claim claim = term("Bids", "Bids have numbers from 0 in the order in which they were made; at most 40 bids are"
                + " made in all, and at most 8 are open at a time.");
        claim.after("bid 0 5; bid 7 6; cancel 0; bid 2 7").answers("priceOf 0", 5).answers("priceOf 1", 6)
                .answers("priceOf 2", 7).refuses(NO_SUCH, "priceOf 3");
        claim.after(cancelledBids(39)).answers("bid 0 0", 39);
        claim.after(cancelledBids(40)).refuses(STATE, "bid 0 0");
        claim.after("8 x bid 0 0; close; ".repeat(4) + "7 x bid 0 0").answers("bid 0 0", 39);
        claim.after("8 x bid 0 0; close; ".repeat(4) + EIGHT_BIDS).refuses(STATE, "bid 0 0");
        claim.after("8 x bid 0 0; close; ".repeat(5)).refuses(STATE, "bid 0 0");
        claim.after(soldRounds(5)).refuses(STATE, "bid 0 0");
        claim.after("7 x bid 0 0").answers("bid 0 0", 7);
        claim.after(EIGHT_BIDS).refuses(STATE, "bid 0 0").refuses(STATE, "bid 7 9999");
        claim.after(EIGHT_BIDS + "; cancel 0").answers("bid 0 0", 8);
        claim.after(EIGHT_BIDS + "; cancel 7; bid 0 0").refuses(STATE, "bid 0 0");
        claim.after(EIGHT_BIDS + "; close").answers("bid 0 0", 8);
        claim.after(EIGHT_WINNERS + "; close; 7 x bid 0 0").answers("bid 0 0", 15);
    }

    private void openOfTheTerms() {
        Claim claim = term("Bids",
                "A bid is open until it wins or loses by a closing, or is cancelled.");
        String past = "offer 0 a 10; bid 0 10 0a; bid 1 5 0a";
        claim.after(past).answers("stateOf 0", 'o').answers("stateOf 1", 'o').answers("openBids", 2);
        claim.after(past + "; raise 1 6; wouldWin 1; withdraw 0").answers("stateOf 0", 'o')
                .answers("stateOf 1", 'o').answers("openBids", 2);
        claim.after(past + "; close").answers("stateOf 0", 'w').answers("stateOf 1", 'l').answers("openBids", 0);
        claim.after(past + "; cancel 0").answers("stateOf 0", 'c').answers("stateOf 1", 'o').answers("openBids", 1);
        claim.after(past + "; cancel 0; close").answers("stateOf 0", 'c').answers("stateOf 1", 'l')
                .answers("openBids", 0);
        claim.after("offer 0 a 0; bid 0 9999 0a; cancel 0; bid 1 5 0a").answers("surplus", 5)
                .answers("surplusBySets", 5).answers("wouldWin 1", true).answers("wouldWinBySets 1", true)
                .answers("payment 1", 0).answers("openBids", 1);
        claim.after("offer 0 a 0; bid 0 9999 0a; cancel 0; bid 1 5 0a; close").answers("stateOf 0", 'c')
                .answers("stateOf 1", 'w').answers("soldTo 0", 1);
    }

    private void bid() {
        says(6, "Makes a bid without items.").after("bid 3 77").answers("items 0", 0).answers("priceOf 0", 77)
                .answers("stateOf 0", 'o').answers("bids", 1).answers("openBids", 1).refuses(INDEX, "fitting 0 0");
        Claim number = says(6, "Returns the number of the bid.");
        number.afterNothing().answers("bid 0 0", 0).answers("bid 7 9999", 0);
        number.after("7 x bid 0 0").answers("bid 0 0", 7);
        number.after("bid 0 0; cancel 0").answers("bid 0 0", 1);
        number.after(cancelledBids(39)).answers("bid 0 0", 39);
        number.after(soldRounds(4)).answers("bid 0 0", 32);
    }

    private void bidRefused() {
        refusal(6, ARGUMENT, "the bidder or the price is out of range").after(MIXED)
                .refuses(each("bid % 0", OFF_BIDDERS)).refuses(each("bid 0 %", OFF_PRICES)).refuses("bid 8 10000")
                .answers("bid 0 0", 10).answers("bid 7 9999", 10);
        Claim full = refusal(6, STATE, "8 bids are open, or 40 bids have been made");
        full.after("7 x bid 0 0").answers("bid 0 0", 7);
        full.after(EIGHT_BIDS).refuses("bid 0 0", "bid 7 9999");
        full.after(EIGHT_WINNERS).refuses("bid 0 0", "bid 7 9999");
        full.after(EIGHT_WINNERS + "; close").answers("bid 0 0", 8);
        full.after(cancelledBids(39)).answers("bid 0 0", 39);
        full.after(cancelledBids(39) + "bid 0 0").refuses("bid 0 0");
        full.after(cancelledBids(40)).refuses("bid 0 0");
        full.after(soldRounds(5)).refuses("bid 0 0");
    }

    private void ask() {
        says(7, "Adds an item to a bid.").after("offer 0 a 0; offer 3 e 0; bid 0 5; bid 1 6 0a; ask 0 3 e")
                .answers("items 0", 1).answers("items 1", 1).answers("fits 1 0 0", true).answers("fits 0 0 0", false);
        Claim count = says(7, "Returns the number of items of the bid after the call.");
        count.after("bid 0 0; bid 0 0 0a").answers("ask 0 0 a", 1).answers("ask 0 3 e", 1).answers("ask 1 0 a", 2);
        count.after("bid 0 0 0a 0a").answers("ask 0 0 a", 3);
    }

    private void askRefused() {
        Claim none = refusal(7, NO_SUCH, NO_BID);
        none.afterNothing().refuses("ask 0 0 a");
        none.after(MIXED).refuses(each("ask % 0 a", NO_BIDS_OF_MIXED)).answers("ask 9 0 a", 2);
        refusal(7, ARGUMENT, "the fibre or the grade is out of range").after(MIXED)
                .refuses(each("ask 9 % a", OFF_FIBRES)).refuses(each("ask 9 0 %", OFF_GRADES)).refuses("ask 9 4 f")
                .answers("ask 9 3 e", 2);
        Claim full = refusal(7, STATE, "the bid is not open, or has 3 items");
        full.after(MIXED).refuses(each("ask % 0 a", "0", "1", "2", "3", "4", "5", "6", "7")).answers("ask 8 0 a", 3);
        full.after(MIXED + "; ask 8 0 a").refuses("ask 8 0 a", "ask 8 3 e").answers("ask 9 0 a", 2);
        full.after("bid 0 0 0a 0a 0a; cancel 0").refuses("ask 0 0 a");
        full.after("bid 0 0 0a 0a 0a; bid 1 0 0a 0a").refuses("ask 0 0 a").answers("ask 1 0 a", 3);
    }

    private void raise() {
        says(8, "Raises the price of a bid.").after("offer 0 a 10; bid 0 20 0a; bid 1 30 0a; raise 0 31")
                .answers("priceOf 0", 31).answers("priceOf 1", 30).answers("surplus", 21).answers("wouldWin 0", true)
                .answers("payment 0", 30);
        Claim before = says(8, "Returns the price before.");
        before.after("bid 0 0").answers("raise 0 1", 0).answers("raise 0 9999", 0);
        before.after("bid 0 0; raise 0 7").answers("raise 0 8", 7);
        before.after("bid 0 9998").answers("raise 0 9999", 9998);
        Claim limit = says(8, "- `price`: the price, up to 9999");
        limit.after("bid 0 5; raise 0 9999").answers("priceOf 0", 9999).refuses(ARGUMENT, "raise 0 10000");
        limit.after("bid 0 5").answers("raise 0 9999", 5).refuses(ARGUMENT, "raise 0 10000");
    }

    private void raiseRefused() {
        Claim none = refusal(8, NO_SUCH, NO_BID);
        none.afterNothing().refuses("raise 0 5");
        none.after(MIXED).refuses(each("raise % 5000", NO_BIDS_OF_MIXED)).answers("raise 9 5000", 36);
        refusal(8, STATE, NOT_OPEN).after(MIXED)
                .refuses(each("raise % 5000", "0", "1", "2", "3", "4", "5", "6", "7")).answers("raise 8 5000", 200);
        Claim argument = refusal(8, ARGUMENT, "the price is not greater than the one before, or is out of range");
        argument.after(MIXED).refuses("raise 9 36", "raise 9 35", "raise 9 0", "raise 9 -1", "raise 9 10000",
                "raise 9 2147483647", "raise 9 -2147483648").answers("raise 9 37", 36).answers("raise 9 9999", 36);
        argument.after(MIXED + "; raise 9 50").refuses("raise 9 50", "raise 9 37").answers("raise 9 51", 50);
        argument.after("bid 0 0").refuses("raise 0 0", "raise 0 -1").answers("raise 0 1", 0);
        argument.after("bid 0 9999").refuses("raise 0 9999", "raise 0 10000", "raise 0 9998");
    }

    private void cancel() {
        says(9, "Cancels a bid.").after("offer 0 a 10; bid 0 20 0a; bid 1 30 0a; bid 2 15 0a; cancel 1")
                .answers("stateOf 0", 'o').answers("stateOf 1", 'c').answers("stateOf 2", 'o').answers("openBids", 2)
                .answers("bids", 3).answers("surplus", 10).answers("surplusBySets", 10).answers("payment 0", 15);
        Claim price = says(9, "Returns its price.");
        price.after("bid 0 0; bid 0 9999").answers("cancel 0", 0).answers("cancel 1", 9999);
        price.after("bid 0 5; raise 0 6").answers("cancel 0", 6);
        price.after(EIGHT_WINNERS).answers("cancel 7", 5);
        Claim none = refusal(9, NO_SUCH, NO_BID);
        none.afterNothing().refuses("cancel 0", "cancel -1");
        none.after("offer 0 a 0").refuses("cancel 0");
        none.after(MIXED).refuses(each("cancel %", NO_BIDS_OF_MIXED)).answers("cancel 9", 36);
        none.after(cancelledBids(39) + "bid 0 4").refuses("cancel 40").answers("cancel 39", 4);
        refusal(9, STATE, NOT_OPEN).after(MIXED)
                .refuses(each("cancel %", "0", "1", "2", "3", "4", "5", "6", "7")).answers("cancel 8", 200);
    }

    private void counts() {
        Claim bids = says(12, "Returns the number of bids that have been made.", "Returns the number of bids.");
        bids.afterNothing().answers("bids", 0);
        bids.after("bid 0 0").answers("bids", 1);
        bids.after("bid 0 0; cancel 0").answers("bids", 1);
        bids.after("bid 0 0; close").answers("bids", 1);
        bids.after(cancelledBids(40)).answers("bids", 40);
        bids.after(soldRounds(5)).answers("bids", 40);
        Claim open = says(14, "Returns the number of bids that are open.", "Returns the number of bids.");
        open.afterNothing().answers("openBids", 0);
        open.after(EIGHT_BIDS).answers("openBids", 8);
        open.after(EIGHT_BIDS + "; cancel 3").answers("openBids", 7);
        open.after(EIGHT_BIDS + "; close").answers("openBids", 0);
        open.after(EIGHT_WINNERS + "; close").answers("openBids", 0);
        open.after(cancelledBids(39) + "bid 0 0").answers("openBids", 1);
        open.after(MIXED).answers("openBids", 2);
    }

    private void items() {
        Claim claim = says(21, "Returns the number of items of a bid.", "Returns the number of items.");
        claim.after("bid 0 0; bid 0 0 0a; bid 0 0 0a 0a; bid 0 0 0a 0a 0a").answers("items 0", 0)
                .answers("items 1", 1).answers("items 2", 2).answers("items 3", 3);
        claim.after(MIXED).answers("items 0", 1).answers("items 3", 0).answers("items 7", 1).answers("items 8", 2);
        noSuchBid(21, "items");
    }

    private void priceOf() {
        Claim claim = says(24, "Returns the price of a bid.", "Returns the price.");
        claim.after("bid 0 0; bid 0 9999").answers("priceOf 0", 0).answers("priceOf 1", 9999);
        claim.after("bid 0 3; raise 0 4").answers("priceOf 0", 4);
        claim.after(MIXED).answers("priceOf 0", 100).answers("priceOf 2", 40).answers("priceOf 7", 30)
                .answers("priceOf 9", 36);
        noSuchBid(24, "priceOf");
    }

    private void stateOf() {
        Claim claim = says(25, "Returns what has become of a bid.",
                "Returns 'o' if it is open, 'w' if it has won, 'l' if it has lost, 'c' if it is cancelled.");
        claim.after(MIXED).answers("stateOf 0", 'w').answers("stateOf 1", 'w').answers("stateOf 2", 'l')
                .answers("stateOf 3", 'l').answers("stateOf 4", 'l').answers("stateOf 5", 'l')
                .answers("stateOf 6", 'l').answers("stateOf 7", 'c').answers("stateOf 8", 'o')
                .answers("stateOf 9", 'o');
        claim.after(MIXED + "; close").answers("stateOf 0", 'w').answers("stateOf 2", 'l').answers("stateOf 7", 'c')
                .answers("stateOf 8", 'w').answers("stateOf 9", 'l');
        claim.after(soldRounds(5)).answers("stateOf 0", 'w').answers("stateOf 39", 'w');
        claim.after(cancelledBids(40)).answers("stateOf 0", 'c').answers("stateOf 39", 'c');
        noSuchBid(25, "stateOf");
    }

    private void noSuchBid(int promise, String method) {
        Claim claim = refusal(promise, NO_SUCH, NO_BID);
        claim.afterNothing().refuses(method + " 0", method + " -1");
        claim.after("offer 0 a 0; offer 0 a 0").refuses(method + " 0");
        claim.after(MIXED).refuses(each(method + " %", NO_BIDS_OF_MIXED));
        claim.after(soldRounds(5)).refuses(method + " 40");
    }
}
