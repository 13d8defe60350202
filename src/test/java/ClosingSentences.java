/** Closings and what they leave: "What it is", "Closing" of the terms, promises 10, 26 to 29 and 38 to 40. */
final class ClosingSentences extends Sentences {
    /** Bids 0 and 1 win with the payments 50, bid 2 makes them pay. */
    private static final String TWO_WIN = "offer 0 a 10; offer 0 a 20; bid 0 100 0a; bid 1 90 0a; bid 2 50 0a";

    ClosingSentences(Book book) {
        super(book);
    }

    @Override
    void test() {
        lastCall();
        salesOfTheTerms();
        othersOfTheTerms();
        reasonsOfTheTerms();
        firstReasonOfTheTerms();
        close();
        reason();
        rival();
        lotOf();
        paid();
        takings();
        soldShare();
        meanPaid();
    }

    private void lastCall() {
        Claim claim = term("What it is", "An object is used for at most 512 calls after it has been made; what later"
                + " calls answer is free.");
        claim.after(EIGHT_WINNERS + "; 487 x surplus").answers("close", 8);
        claim.after(EIGHT_WINNERS + "; 487 x surplusBySets").answers("surplusBySets", 40);
        claim.after(soldRounds(5) + "; 386 x lots").answers("soldTo 39", 39);
    }

    private void salesOfTheTerms() {
        Claim claim = term("Closing", "A closing sells the lots of the best set to its bids, which win and pay their"
                + " payments; all payments are found before anything is sold.");
        claim.after(TWO_WIN).answers("close", 2);
        claim.after(TWO_WIN + "; close").answers("stateOf 0", 'w').answers("stateOf 1", 'w').answers("lotState 0", 's')
                .answers("lotState 1", 's').answers("soldTo 0", 0).answers("soldTo 1", 1).answers("lotOf 0 0", 0)
                .answers("lotOf 1 0", 1).answers("paid 0", 50).answers("paid 1", 50).answers("takings", 100L)
                .answers("openLots", 0).answers("openBids", 0);
        claim.after("3 x offer 0 a 1; bid 0 7 0a; bid 1 7 0a; bid 2 7 0a; bid 3 6 0a; close").answers("paid 0", 6)
                .answers("paid 1", 6).answers("paid 2", 6).answers("takings", 18L);
        claim.after(EIGHT_WINNERS + "; withdraw 6; close").answers("paid 5", 0).answers("paid 6", 5)
                .answers("takings", 5L);
    }

    private void othersOfTheTerms() {
        Claim lose = term("Closing", "All other open bids lose.");
        lose.after(TWO_WIN + "; close").answers("stateOf 2", 'l').answers("openBids", 0);
        lose.after(EIGHT_BIDS + "; close").answers("stateOf 0", 'l').answers("stateOf 7", 'l').answers("openBids", 0);
        lose.after(TWO_WIN + "; cancel 2; close").answers("stateOf 2", 'c');
        lose.after(TWO_WIN + "; close; bid 0 5; close").answers("stateOf 0", 'w').answers("stateOf 2", 'l')
                .answers("stateOf 3", 'l');
        Claim stay = term("Closing", "A lot that is not sold stays open.");
        stay.after(TWO_WIN + "; offer 0 a 60; offer 1 a 0; withdraw 3; close").answers("lotState 2", 'o')
                .answers("lotState 3", 'w').answers("openLots", 1).answers("countOf 0 a", 1);
        stay.after(TWO_WIN + "; offer 0 a 60; close; bid 0 65 0a").answers("close", 1).answers("lotFor 3 0", 2);
        stay.after(EIGHT_LOTS + "; bid 0 0; close").answers("openLots", 8);
        stay.after("3 x offer 0 a 1; bid 0 3 0a 0a 0a; bid 1 2 0a; bid 2 9 0a; close").answers("lotState 0", 's')
                .answers("lotState 1", 's').answers("lotState 2", 'o').answers("openLots", 1)
                .answers("soldShare", 2f / 3f).answers("soldTo 0", 1).answers("soldTo 1", 2);
        stay.after(EIGHT_WINNERS + "; cancel 0; close").answers("openLots", 1).answers("lotState 1", 'o');
    }

    private Claim reasons() {
        return term("Closing", "A bid that loses has a reason, the first one of these that applies, with the lots that"
                + " were open before the closing: 'n', it has no items; 'l', the set of this bid alone is not possible;"
                + " 'p', the surplus of the set of this bid alone is less than 0; 'b', another bid of its bidder wins;"
                + " 'm', otherwise.");
    }

    private static void reasonIs(Claim claim, String past, int bid, char due) {
        claim.after(past + "; close").answers("reason " + bid, due);
    }

    private void reasonsOfTheTerms() {
        Claim claim = reasons();
        reasonIs(claim, "offer 0 a 10; bid 0 9999", 0, 'n');
        reasonIs(claim, "bid 0 0", 0, 'n');
        reasonIs(claim, "bid 0 9999 0e", 0, 'l');
        reasonIs(claim, "offer 0 b 10; bid 0 9999 0a", 0, 'l');
        reasonIs(claim, "offer 0 a 10; bid 0 9999 0a 0a", 0, 'l');
        reasonIs(claim, "offer 0 a 10; offer 0 a 10; bid 0 19 0a 0a", 0, 'p');
        reasonIs(claim, "offer 0 a 10; withdraw 0; bid 0 9999 0a", 0, 'l');
        reasonIs(claim, "offer 0 a 10; bid 0 10 0a; close; bid 1 9999 0a", 1, 'l');
        reasonIs(claim, "offer 0 a 10; bid 0 9 0a", 0, 'p');
        reasonIs(claim, "offer 0 a 1; bid 0 0 0a", 0, 'p');
        reasonIs(claim, "offer 0 a 10; bid 0 20 0a; bid 1 9 0a", 1, 'p');
        reasonIs(claim, "offer 0 a 10; bid 0 20 0a; bid 1 10 0a", 1, 'm');
        reasonIs(claim, "offer 0 a 0; bid 0 0 0a; bid 1 0 0a", 1, 'm');
        reasonIs(claim, "offer 0 a 10; bid 0 20 0a; bid 0 10 0a", 1, 'b');
        reasonIs(claim, "offer 0 a 10; bid 0 10 0a; bid 0 20 0a", 0, 'b');
        reasonIs(claim, "offer 0 a 10; offer 0 a 10; bid 7 20 0a; bid 7 20 0a", 1, 'b');
        reasonIs(claim, "offer 0 a 10; bid 0 20 0a; bid 1 19 0a; bid 1 18 0a", 2, 'm');
        reasonIs(claim, "offer 0 a 10; bid 0 20 0a; bid 0 19 0a; cancel 0; bid 1 30 0a", 1, 'm');
        reasonIs(claim, "offer 0 a 10; bid 0 20 0a; close; offer 0 a 10; bid 1 20 0a; bid 0 15 0a", 2, 'm');
    }

    /** The bidder's bid 0 wins the only lot, or the only cheap one. */
    private void firstReasonOfTheTerms() {
        Claim claim = reasons();
        String past = "offer 0 a 10; bid 0 100 0a; ";
        reasonIs(claim, past + "bid 0 5", 1, 'n');
        reasonIs(claim, past + "bid 0 5 1a", 1, 'l');
        reasonIs(claim, past + "bid 0 5 0a", 1, 'p');
        reasonIs(claim, past + "bid 0 10 0a", 1, 'b');
        reasonIs(claim, past + "bid 1 5", 1, 'n');
        reasonIs(claim, past + "bid 1 5 1a", 1, 'l');
        reasonIs(claim, past + "bid 1 5 0a", 1, 'p');
        reasonIs(claim, past + "bid 1 10 0a", 1, 'm');
        reasonIs(claim, "offer 0 a 10; offer 0 a 30; bid 0 100 0a; bid 1 29 0a", 1, 'm');
        reasonIs(claim, EIGHT_WINNERS + "; cancel 0; bid 7 4 0a 1a", 8, 'b');
        reasonIs(claim, EIGHT_WINNERS + "; cancel 0; bid 0 4 0a 1a", 8, 'm');
    }

    private void close() {
        says(10, "Closes the market.").after(TWO_WIN + "; close").answers("openBids", 0).answers("stateOf 0", 'w')
                .answers("stateOf 2", 'l').answers("surplus", 0);
        Claim sold = says(10, "Returns the number of lots that are sold.");
        sold.after("bid 0 0").answers("close", 0);
        sold.after("offer 0 a 10; bid 0 9 0a").answers("close", 0);
        sold.after("offer 0 a 10; bid 0 10 0a").answers("close", 1);
        sold.after("offer 0 a 10; bid 0 10 0a; close; offer 0 a 0; bid 1 0 0a").answers("close", 1);
        sold.after("3 x offer 0 a 1; bid 0 9 0a 0a 0a; bid 1 4 0a").answers("close", 3);
        sold.after("2 x offer 0 a 1; bid 0 3 0a 0a; bid 1 9 0a").answers("close", 1);
        sold.after("2 x offer 0 a 1; bid 0 9 0a; bid 1 4 0a 0a; bid 2 9 0a").answers("close", 2);
        sold.after(EIGHT_WINNERS).answers("close", 8);
        sold.after(EIGHT_THREES).answers("close", 6);
        sold.after(EIGHT_LOTS + "; bid 0 9 0a 0a 0a; bid 1 9 0a 0a 0a; bid 2 8 0a 0a 0a").answers("close", 6);
        sold.after(soldRounds(4) + EIGHT_WINNERS).answers("close", 8);
        Claim none = refusal(10, STATE, "no bid is open");
        none.afterNothing().refuses("close");
        none.after(EIGHT_LOTS).refuses("close");
        none.after(TWO_WIN + "; close").refuses("close");
        none.after("bid 0 0; cancel 0").refuses("close");
        none.after(cancelledBids(39) + "bid 0 0").answers("close", 0);
        none.after(cancelledBids(40)).refuses("close");
        none.after(MIXED + "; cancel 8").answers("close", 1);
        none.after(MIXED + "; cancel 8; cancel 9").refuses("close");
    }

    private void reason() {
        Claim claim = says(26, "Returns the reason why a bid has lost.", "Returns 'n', 'l', 'p', 'b' or 'm'.");
        claim.after(MIXED).answers("reason 2", 'b').answers("reason 3", 'n').answers("reason 4", 'l')
                .answers("reason 5", 'p').answers("reason 6", 'm');
        claim.after(MIXED + "; forbid; allow 2 0 0; close").answers("reason 2", 'b').answers("reason 3", 'n')
                .answers("reason 4", 'l').answers("reason 5", 'p').answers("reason 6", 'm').answers("reason 9", 'm');
        Claim none = refusal(26, NO_SUCH, NO_BID);
        none.afterNothing().refuses("reason 0", "reason -1");
        none.after(MIXED).refuses(each("reason %", NO_BIDS_OF_MIXED));
        refusal(26, STATE, "it has not lost").after(MIXED)
                .refuses("reason 0", "reason 1", "reason 7", "reason 8", "reason 9");
        refusal(26, STATE, "it has not lost").after("bid 0 0").refuses("reason 0");
    }

    private void rival() {
        Claim claim = says(27, "Returns the bid of the same bidder that won when a bid lost with the reason 'b'.",
                "Returns the other bid.");
        claim.after("offer 0 a 10; bid 0 20 0a; bid 0 10 0a; close").answers("rival 1", 0);
        claim.after("offer 0 a 10; bid 0 10 0a; bid 0 20 0a; close").answers("rival 0", 1);
        claim.after("offer 0 a 10; offer 0 a 10; bid 0 30 0a; bid 7 10 0a; bid 7 20 0a; bid 0 40 0a; close")
                .answers("rival 0", 3).answers("rival 1", 2);
        claim.after(MIXED).answers("rival 2", 1);
        claim.after(MIXED + "; bid 1 900 1d; close").answers("rival 2", 1).answers("stateOf 10", 'w');
        claim.after(soldRounds(4) + EIGHT_LOTS + "; 7 x bid 3 5; bid 3 6 0a; ask 32 0 a; close")
                .answers("rival 32", 39);
        Claim none = refusal(27, NO_SUCH, NO_BID);
        none.afterNothing().refuses("rival 0", "rival -1");
        none.after(MIXED).refuses(each("rival %", NO_BIDS_OF_MIXED));
        Claim other = refusal(27, STATE, "it has not lost with the reason 'b'");
        other.after(MIXED).refuses(each("rival %", "0", "1", "3", "4", "5", "6", "7", "8", "9"));
        other.after("offer 0 a 10; bid 0 100 0a; bid 0 5; bid 0 5 1a; bid 0 5 0a; close")
                .refuses("rival 0", "rival 1", "rival 2", "rival 3");
    }

    private void lotOf() {
        Claim claim = says(28, "Returns the lot that an item of a bid has got.", "Returns the lot.");
        claim.after("offer 0 a 0; bid 0 0 0a; close").answers("lotOf 0 0", 0);
        claim.after("offer 0 c 0; offer 0 b 0; offer 0 a 0; bid 0 0 0a 0b 0c; close").answers("lotOf 0 0", 2)
                .answers("lotOf 0 1", 1).answers("lotOf 0 2", 0);
        claim.after(MIXED + "; close").answers("lotOf 0 0", 0).answers("lotOf 1 0", 1).answers("lotOf 8 0", 3)
                .answers("lotOf 8 1", 2);
        claim.after(soldRounds(5)).answers("lotOf 0 0", 0).answers("lotOf 39 0", 39);
        Claim none = refusal(28, NO_SUCH, NO_BID);
        none.afterNothing().refuses("lotOf 0 0");
        none.after(MIXED).refuses(each("lotOf % 0", NO_BIDS_OF_MIXED));
        refusal(28, INDEX, NO_ITEM).after(MIXED).refuses("lotOf 0 1", "lotOf 0 -1", "lotOf 1 1", "lotOf 2 1",
                "lotOf 3 0", "lotOf 7 1", "lotOf 8 2", "lotOf 8 -1", "lotOf 0 2147483647", "lotOf 0 -2147483648")
                .answers("lotOf 0 0", 0);
        refusal(28, INDEX, NO_ITEM).after("3 x offer 0 a 0; bid 0 0 0a 0a 0a; close").refuses("lotOf 0 3")
                .answers("lotOf 0 2", 2);
        refusal(28, STATE, "the bid has not won").after(MIXED)
                .refuses(each("lotOf % 0", "2", "4", "5", "6", "7", "8", "9"));
    }

    private void paid() {
        Claim claim = says(29, "Returns what a bid has paid.", "Returns the payment.");
        claim.after("offer 0 a 0; bid 0 9999 0a; close").answers("paid 0", 0);
        claim.after("offer 0 a 0; bid 0 9999 0a; bid 1 9999 0a; close").answers("paid 0", 9999);
        claim.after(MIXED).answers("paid 0", 21).answers("paid 1", 21);
        claim.after(MIXED + "; close").answers("paid 0", 21).answers("paid 1", 21).answers("paid 8", 41);
        Claim none = refusal(29, NO_SUCH, NO_BID);
        none.afterNothing().refuses("paid 0", "paid -1");
        none.after(MIXED).refuses(each("paid %", NO_BIDS_OF_MIXED));
        refusal(29, STATE, "it has not won").after(MIXED)
                .refuses(each("paid %", "2", "3", "4", "5", "6", "7", "8", "9"));
    }

    private void takings() {
        Claim claim = says(38, "Returns the sum of all payments so far.", "Returns the sum.");
        claim.afterNothing().answers("takings", 0L);
        claim.after(TWO_WIN).answers("takings", 0L);
        claim.after(TWO_WIN + "; close").answers("takings", 100L);
        claim.after(TWO_WIN + "; close; offer 0 a 7; bid 0 8 0a; close").answers("takings", 107L);
        claim.after(TWO_WIN + "; close; offer 0 a 7; bid 0 6 0a; close").answers("takings", 100L);
        claim.after(EIGHT_WINNERS + "; close").answers("takings", 0L);
        claim.after(MIXED).answers("takings", 42L);
        claim.after(MIXED + "; close").answers("takings", 83L);
        claim.after("offer 0 a 0; bid 0 9999 0a; bid 1 9999 0a; close; ".repeat(20)).answers("takings", 199980L);
    }

    private void soldShare() {
        Claim claim = says(39, "Returns the share of lots that are sold: their number divided by that of all lots that"
                + " have been offered, both converted to float.", "Returns the share.");
        claim.after("offer 0 a 0").answers("soldShare", 0f);
        claim.after("offer 0 a 0; withdraw 0").answers("soldShare", 0f);
        claim.after("offer 0 a 0; bid 0 0 0a; close").answers("soldShare", 1f);
        claim.after("offer 0 a 0; offer 0 a 0; offer 0 a 0; withdraw 2; bid 0 0 0a; close")
                .answers("soldShare", 1f / 3f);
        claim.after(MIXED).answers("soldShare", 2f / 5f);
        claim.after(MIXED + "; close").answers("soldShare", 4f / 5f);
        claim.after(soldRounds(5)).answers("soldShare", 1f);
        claim.after(withdrawnLots(39) + "offer 0 a 0; bid 0 0 0a; close").answers("soldShare", 1f / 40f);
        claim.after(withdrawnLots(40)).answers("soldShare", 0f);
        Claim none = refusal(39, ARITHMETIC, "no lots have been offered");
        none.afterNothing().refuses("soldShare");
        none.after(EIGHT_BIDS).refuses("soldShare");
        none.after(EIGHT_BIDS + "; close").refuses("soldShare");
        none.after("offer 0 a 0").answers("soldShare", 0f);
    }

    private void meanPaid() {
        Claim claim = says(40, "Returns the mean payment: the sum of all payments divided by the number of bids that"
                + " have won, both converted to double.", "Returns the mean.");
        claim.after("offer 0 a 0; bid 0 9 0a; close").answers("meanPaid", 0.0);
        claim.after("offer 0 a 10; bid 0 10 0a; close").answers("meanPaid", 10.0);
        claim.after("2 x offer 0 a 10; bid 0 50 0a 0a; close").answers("meanPaid", 20.0);
        claim.after("offer 0 a 10; bid 0 50 0a; close; offer 0 a 11; bid 0 50 0a; close; offer 0 a 11; bid 0 50 0a; "
                + "bid 1 9 0a; close").answers("meanPaid", 32.0 / 3.0);
        claim.after("offer 0 a 10; bid 0 10 0a; close; offer 0 a 5; bid 0 10 0a; close; bid 0 5 0a; close")
                .answers("meanPaid", 7.5);
        claim.after(MIXED + "; close").answers("meanPaid", 83.0 / 3.0);
        claim.after("offer 0 a 0; bid 0 9999 0a; bid 1 9999 0a; close; ".repeat(20)).answers("meanPaid", 9999.0);
        Claim none = refusal(40, ARITHMETIC, "no bid has won");
        none.afterNothing().refuses("meanPaid");
        none.after(EIGHT_WINNERS).refuses("meanPaid");
        none.after("offer 0 a 1; bid 0 0 0a; close").refuses("meanPaid");
        none.after("offer 0 a 0; bid 0 0 0a; close").answers("meanPaid", 0.0);
        none.after(cancelledBids(40)).refuses("meanPaid");
    }
}
