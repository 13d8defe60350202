/** "Exceptions" of the terms: refused calls change nothing, and of several exceptions the first is thrown. */
final class OrderSentences extends Sentences {
    OrderSentences(Book book) {
        super(book);
    }

    @Override
    void test() {
        changesRefused();
        questionsRefused();
        fullMarketRefuses();
        offerAllowBid();
        askAndRaise();
        itemsOfNoBid();
        lotOf();
        costOfAndPayment();
        lotFor();
    }

    private Claim changesNothing() {
        return term("Exceptions", "A method that throws an exception changes nothing.");
    }

    private Claim firstIsThrown() {
        return term("Exceptions", "If several exceptions apply, the one that is listed first is thrown.");
    }

    private static void refuseEach(Scene scene, Class<? extends RuntimeException> due, String... calls) {
        for (String call : calls) {
            scene.refuses(due, call);
        }
    }

    private void changesRefused() {
        Scene scene = changesNothing().after(MIXED);
        refuseEach(scene, ARGUMENT, "offer 4 a 1", "offer 1 f 1", "offer 1 a 1000", "allow 4 1 1", "allow 1 4 1",
                "allow 1 1 5", "bid 8 1", "bid 1 10000", "ask 9 4 a", "ask 9 1 f", "raise 9 36", "raise 9 10000");
        refuseEach(scene, NO_SUCH, "withdraw 5", "ask 10 1 a", "raise 10 9999", "cancel 10");
        refuseEach(scene, STATE, "withdraw 0", "withdraw 4", "ask 0 1 a", "ask 2 1 a", "ask 7 1 a", "raise 0 9999",
                "raise 2 9999", "raise 7 9999", "cancel 0", "cancel 2", "cancel 7");
        changesNothing().after("offer 0 a 0; 2 x bid 0 5 0a; cancel 0; cancel 1").refuses(STATE, "close");
        changesNothing().after("offer 0 a 0").refuses(STATE, "forbid").refuses(STATE, "close");
    }

    private void questionsRefused() {
        Scene scene = changesNothing().after(MIXED);
        refuseEach(scene, ARGUMENT, "countOf 4 a", "countOf 0 f", "surplusWithout 8");
        refuseEach(scene, NO_SUCH, "fibreOf 5", "gradeOf 5", "reserveOf 5", "lotState 5", "soldTo 5", "items 10",
                "fits 5 0 0", "fits 0 10 0", "fitting 10 0", "priceOf 10", "stateOf 10", "reason 10", "rival 10",
                "lotOf 10 0", "paid 10", "costOf 10", "wouldWin 10", "wouldWinBySets 10", "lotFor 10 0",
                "payment 10");
        refuseEach(scene, INDEX, "fits 3 8 2", "fitting 8 2", "lotOf 0 1", "lotFor 8 2");
        refuseEach(scene, STATE, "soldTo 2", "reason 8", "rival 6", "lotOf 8 0", "paid 8", "costOf 0", "wouldWin 0",
                "wouldWinBySets 0", "lotFor 0 0", "payment 0");
        refuseEach(scene, UNSUPPORTED, "lotFor 9 0", "payment 9");
        changesNothing().after(MIXED + "; withdraw 2").refuses(UNSUPPORTED, "costOf 9");
        refuseEach(changesNothing().afterNothing(), ARITHMETIC, "soldShare", "meanPaid");
    }

    private void fullMarketRefuses() {
        Claim claim = changesNothing();
        claim.after(EIGHT_WINNERS).refuses(STATE, "offer 1 a 1").refuses(STATE, "bid 1 9999");
        claim.after(EIGHT_WINNERS + "; 6 x allow 3 0 0; ask 0 0 a; ask 0 0 a").refuses(STATE, "allow 1 0 0")
                .refuses(STATE, "ask 0 0 a");
        claim.after(EIGHT_THREES).refuses(STATE, "ask 0 0 a").refuses(STATE, "ask 7 0 a").refuses(STATE, "bid 0 0");
        claim.after(withdrawnLots(40)).refuses(STATE, "offer 1 a 1");
        claim.after(cancelledBids(40)).refuses(STATE, "bid 1 1");
        claim.after(soldRounds(5)).refuses(STATE, "offer 1 a 1").refuses(STATE, "bid 1 1").refuses(STATE, "close");
    }

    private void offerAllowBid() {
        Claim claim = firstIsThrown();
        String[] offers = {"offer 4 a 0", "offer -1 a 0", "offer 0 f 0", "offer 0 #96 0", "offer 0 a 1000",
            "offer 0 a -1"};
        refuseEach(claim.after(EIGHT_LOTS), ARGUMENT, offers);
        refuseEach(claim.after(withdrawnLots(40)), ARGUMENT, offers);
        refuseEach(claim.after(SIX_RULES), ARGUMENT, "allow 4 0 0", "allow -1 0 0", "allow 0 4 0", "allow 0 -1 0",
                "allow 0 1 5", "allow 0 1 -1");
        String[] bids = {"bid 8 0", "bid -1 0", "bid 0 10000", "bid 0 -1"};
        refuseEach(claim.after(EIGHT_BIDS), ARGUMENT, bids);
        refuseEach(claim.after(cancelledBids(40)), ARGUMENT, bids);
    }

    private void askAndRaise() {
        Claim claim = firstIsThrown();
        Scene scene = claim.after(MIXED);
        refuseEach(scene, NO_SUCH, "ask 10 4 a", "ask 10 0 f", "ask -1 -1 #96");
        refuseEach(claim.afterNothing(), NO_SUCH, "ask 0 4 a", "ask 0 0 f");
        for (String closed : new String[] {"0", "2", "7"}) {
            refuseEach(scene, ARGUMENT, each("ask " + closed + " %", "4 a", "-1 a", "0 f", "0 #96"));
        }
        refuseEach(claim.after("bid 0 0 0a 0a 0a"), ARGUMENT, each("ask 0 %", "4 a", "-1 a", "0 f", "0 #96"));
        refuseEach(claim.after("bid 0 0 0a 0a 0a; cancel 0"), ARGUMENT, "ask 0 4 a");
        refuseEach(scene, NO_SUCH, "raise 10 10000", "raise 10 -1", "raise -1 0");
        refuseEach(claim.afterNothing(), NO_SUCH, "raise 0 10000", "raise 0 -1");
        refuseEach(scene, STATE, "raise 0 100", "raise 0 10000", "raise 0 -1", "raise 2 40", "raise 2 10000",
                "raise 7 30", "raise 7 29", "raise 7 10000");
    }

    private void itemsOfNoBid() {
        Claim claim = firstIsThrown();
        refuseEach(claim.after(MIXED), NO_SUCH, "fits 5 8 2", "fits -1 8 -1", "fits 5 3 0", "fits 3 10 3",
                "fits 3 -1 -1", "fits 5 10 3", "fitting 10 3", "fitting -1 -1", "lotOf 10 3", "lotOf -1 -1",
                "lotFor 10 3", "lotFor -1 -1");
        refuseEach(claim.afterNothing(), NO_SUCH, "fits 0 0 0", "fits 0 0 -1", "fitting 0 3", "lotOf 0 3",
                "lotFor 0 3");
    }

    private void lotOf() {
        refuseEach(firstIsThrown().after(MIXED), INDEX, "lotOf 2 1", "lotOf 2 -1", "lotOf 3 0", "lotOf 7 1",
                "lotOf 7 -1", "lotOf 8 2", "lotOf 8 -1", "lotOf 9 1");
    }

    private void costOfAndPayment() {
        Claim claim = firstIsThrown();
        refuseEach(claim.after(MIXED), STATE, "costOf 3", "costOf 4", "payment 2", "payment 3", "payment 4",
                "payment 5", "payment 7");
        refuseEach(claim.after("bid 0 9; cancel 0"), STATE, "costOf 0", "payment 0");
        refuseEach(claim.after("offer 0 a 0; bid 0 9 0a; close"), STATE, "costOf 0", "payment 0");
    }

    private void lotFor() {
        Claim claim = firstIsThrown();
        refuseEach(claim.after(MIXED), INDEX, "lotFor 0 1", "lotFor 0 -1", "lotFor 2 1", "lotFor 3 0", "lotFor 7 1",
                "lotFor 9 1", "lotFor 9 -1");
        refuseEach(claim.after("offer 0 a 0; bid 0 9"), INDEX, "lotFor 0 0");
        refuseEach(claim.after(MIXED), STATE, "lotFor 2 0", "lotFor 4 0", "lotFor 5 0", "lotFor 6 0", "lotFor 7 0");
    }
}
