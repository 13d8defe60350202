/** Lots: "Lots" of the terms, promises 1 to 3, 11, 13 and 15 to 20. */
final class LotSentences extends Sentences {
    LotSentences(Book book) {
        super(book);
    }

    @Override
    void test() {
        lotsOfTheTerms();
        numbersOfTheTerms();
        openOfTheTerms();
        newObject();
        offer();
        offerRefused();
        withdraw();
        counts();
        fibreGradeReserve();
        lotState();
        soldTo();
        countOf();
    }

    private void lotsOfTheTerms() {
        Claim claim = term("Lots", "A lot has a fibre from 0 to 3, a grade from 'a', the best one, to 'e',"
                + " and a reserve from 0 to 999.");
        for (int fibre = 0; fibre <= 3; fibre++) {
            claim.after("offer " + fibre + " a 0").answers("fibreOf 0", fibre);
        }
        for (char grade = 'a'; grade <= 'e'; grade++) {
            claim.after("offer 0 " + grade + " 0").answers("gradeOf 0", grade);
        }
        for (int reserve : new int[] {0, 1, 255, 256, 998, 999}) {
            claim.after("offer 0 a " + reserve).answers("reserveOf 0", reserve);
        }
        claim.after("offer 0 a 0; bid 0 0 0e").answers("fits 0 0 0", true);
        claim.after("offer 0 e 0; bid 0 0 0a").answers("fits 0 0 0", false);
        claim.afterNothing().refuses(ARGUMENT, "offer -1 a 0").refuses(ARGUMENT, "offer 4 a 0")
                .refuses(ARGUMENT, "offer 0 #96 0").refuses(ARGUMENT, "offer 0 f 0")
                .refuses(ARGUMENT, "offer 0 a -1").refuses(ARGUMENT, "offer 0 a 1000");
    }

    private void numbersOfTheTerms() {
        Claim claim = term("Lots", "Lots have numbers from 0 in the order in which they were offered; at most 40 lots"
                + " are offered in all, and at most 8 are open at a time.");
        claim.after("offer 0 a 5; offer 1 b 6; withdraw 0; offer 2 c 7").answers("reserveOf 0", 5)
                .answers("reserveOf 1", 6).answers("reserveOf 2", 7).refuses(NO_SUCH, "reserveOf 3");
        claim.after(withdrawnLots(39)).answers("offer 0 a 0", 39);
        claim.after(withdrawnLots(40)).refuses(STATE, "offer 0 a 0");
        claim.after(soldRounds(4) + "7 x offer 0 a 0").answers("offer 0 a 0", 39);
        claim.after(soldRounds(4) + EIGHT_LOTS).refuses(STATE, "offer 0 a 0");
        claim.after(soldRounds(5)).refuses(STATE, "offer 0 a 0");
        claim.after("7 x offer 0 a 0").answers("offer 0 a 0", 7);
        claim.after(EIGHT_LOTS).refuses(STATE, "offer 0 a 0");
        claim.after(EIGHT_LOTS + "; withdraw 0").answers("offer 0 a 0", 8);
        claim.after(EIGHT_LOTS + "; withdraw 7; offer 0 a 0").refuses(STATE, "offer 0 a 0");
        claim.after(EIGHT_LOTS + "; bid 0 5 0a; close").answers("offer 0 a 0", 8);
        claim.after(EIGHT_LOTS + "; bid 0 5 0a; close; offer 0 a 0").refuses(STATE, "offer 0 a 0");
        claim.after(EIGHT_LOTS + "; bid 0 5 1a; close").refuses(STATE, "offer 0 a 0");
    }

    private void openOfTheTerms() {
        Claim claim = term("Lots", "A lot is open until it is sold or withdrawn.");
        claim.after("offer 0 a 10").answers("lotState 0", 'o').answers("openLots", 1);
        claim.after("offer 0 a 10; bid 0 9 0a; close").answers("lotState 0", 'o').answers("openLots", 1);
        claim.after("offer 0 a 10; bid 0 99 0a; cancel 0").answers("lotState 0", 'o').answers("openLots", 1);
        claim.after("offer 0 a 10; bid 0 10 0a; close").answers("lotState 0", 's').answers("openLots", 0);
        claim.after("offer 0 a 10; withdraw 0").answers("lotState 0", 'w').answers("openLots", 0);
        claim.after("offer 0 a 10; bid 0 10 0a; close; bid 0 50 0a").answers("fitting 1 0", 0)
                .answers("surplus", 0).answers("surplusBySets", 0).answers("close", 0);
        claim.after("offer 0 a 10; withdraw 0; bid 0 50 0a").answers("fitting 0 0", 0)
                .answers("surplus", 0).answers("surplusBySets", 0).answers("close", 0);
    }

    private void newObject() {
        Claim claim = says(1, "Creates a market without lots, bids and rules.");
        Scene scene = claim.afterNothing().answers("lots", 0).answers("bids", 0).answers("openLots", 0)
                .answers("openBids", 0).answers("surplus", 0).answers("surplusBySets", 0).answers("takings", 0L)
                .answers("offer 0 a 0", 0).answers("bid 0 0", 0).answers("allow 0 0 0", 1);
        for (int number = 0; number < 8; number++) {
            scene.answers("surplusWithout " + number, 0);
            scene.answers("countOf " + number / 2 + " " + (char) ('a' + number % 5), 0);
        }
        scene.refuses(STATE, "forbid").refuses(STATE, "close");
        scene.refuses(NO_SUCH, "withdraw 0").refuses(NO_SUCH, "cancel 0");
        claim.after("offer 0 a 0; bid 0 0 0e; bid 0 0 1e").answers("fits 0 0 0", true).answers("fits 0 1 0", false);
    }

    private void offer() {
        says(2, "Offers a lot.").after("offer 0 a 0; offer 2 c 7").answers("fibreOf 1", 2).answers("gradeOf 1", 'c')
                .answers("reserveOf 1", 7).answers("lotState 1", 'o').answers("lots", 2).answers("openLots", 2)
                .answers("countOf 2 c", 1);
        Claim number = says(2, "Returns the number of the lot.");
        number.afterNothing().answers("offer 3 e 999", 0);
        number.after("7 x offer 0 a 0").answers("offer 3 e 999", 7);
        number.after("offer 0 a 0; withdraw 0").answers("offer 0 a 0", 1);
        number.after(withdrawnLots(39)).answers("offer 0 a 0", 39);
        number.after(soldRounds(4)).answers("offer 0 a 0", 32);
    }

    private void offerRefused() {
        refusal(2, ARGUMENT, "the fibre, the grade or the reserve is out of range").after(MIXED)
                .refuses(each("offer % a 0", OFF_FIBRES)).refuses(each("offer 0 % 0", OFF_GRADES))
                .refuses(each("offer 0 a %", OFF_RESERVES))
                .answers("offer 0 a 0", 5).answers("offer 3 e 999", 5);
        Claim full = refusal(2, STATE, "8 lots are open, or 40 lots have been offered");
        full.after("7 x offer 0 a 0").answers("offer 0 a 0", 7);
        full.after(EIGHT_LOTS).refuses("offer 0 a 0", "offer 3 e 999");
        full.after(EIGHT_WINNERS).refuses("offer 0 a 0");
        full.after(EIGHT_WINNERS + "; close").answers("offer 0 a 0", 8);
        full.after(soldRounds(4) + EIGHT_LOTS + "; withdraw 39; withdraw 38").refuses("offer 0 a 0");
        full.after(withdrawnLots(39)).answers("offer 0 a 0", 39);
        full.after(withdrawnLots(39) + "offer 0 a 0").refuses("offer 0 a 0");
        full.after(withdrawnLots(40)).refuses("offer 0 a 0");
    }

    private void withdraw() {
        says(3, "Withdraws a lot.").after("offer 0 a 0; offer 0 b 0; offer 0 c 0; withdraw 1")
                .answers("lotState 0", 'o').answers("lotState 1", 'w').answers("lotState 2", 'o')
                .answers("countOf 0 b", 0).answers("openLots", 2).answers("lots", 3);
        Claim left = says(3, "Returns the number of lots that are open after the call.");
        left.after("offer 0 a 0").answers("withdraw 0", 0);
        left.after("offer 0 a 0; offer 0 a 0").answers("withdraw 0", 1).answers("withdraw 1", 1);
        left.after(EIGHT_LOTS).answers("withdraw 7", 7);
        left.after(EIGHT_LOTS + "; bid 0 5 0a 0a 0a; close").answers("withdraw 7", 4);
        left.after(withdrawnLots(39) + "offer 0 a 0").answers("withdraw 39", 0);
        Claim none = refusal(3, NO_SUCH, NO_LOT);
        none.afterNothing().refuses("withdraw 0", "withdraw -1");
        none.after("offer 0 a 0").refuses("withdraw 1").answers("withdraw 0", 0);
        none.after(MIXED).refuses(each("withdraw %", NO_LOTS_OF_MIXED));
        none.after(withdrawnLots(39) + "offer 0 a 0").refuses("withdraw 40").answers("withdraw 39", 0);
        Claim closed = refusal(3, STATE, "it is not open");
        closed.after("offer 0 a 0; withdraw 0").refuses("withdraw 0");
        closed.after("offer 0 a 0; bid 0 0 0a; close").refuses("withdraw 0");
        closed.after("offer 0 a 1; bid 0 0 0a; close").answers("withdraw 0", 0);
        closed.after(MIXED).refuses("withdraw 0", "withdraw 1", "withdraw 4").answers("withdraw 3", 1);
    }

    private void counts() {
        Claim lots = says(11, "Returns the number of lots that have been offered.", "Returns the number of lots.");
        lots.afterNothing().answers("lots", 0);
        lots.after("offer 0 a 0").answers("lots", 1);
        lots.after("offer 0 a 0; withdraw 0").answers("lots", 1);
        lots.after("offer 0 a 0; bid 0 0 0a; close").answers("lots", 1);
        lots.after(withdrawnLots(40)).answers("lots", 40);
        lots.after(soldRounds(5)).answers("lots", 40);
        Claim open = says(13, "Returns the number of lots that are open.", "Returns the number of lots.");
        open.afterNothing().answers("openLots", 0);
        open.after(EIGHT_LOTS).answers("openLots", 8);
        open.after(EIGHT_LOTS + "; withdraw 3").answers("openLots", 7);
        open.after(EIGHT_LOTS + "; bid 0 5 0a 0a; close").answers("openLots", 6);
        open.after(EIGHT_WINNERS).answers("openLots", 8);
        open.after(EIGHT_WINNERS + "; close").answers("openLots", 0);
        open.after(withdrawnLots(40)).answers("openLots", 0);
    }

    private void fibreGradeReserve() {
        Claim fibre = says(15, "Returns the fibre of a lot.", "Returns the fibre.");
        fibre.after("offer 3 a 0; offer 0 b 1").answers("fibreOf 0", 3).answers("fibreOf 1", 0);
        fibre.after(MIXED).answers("fibreOf 0", 0).answers("fibreOf 2", 1).answers("fibreOf 4", 3);
        Claim grade = says(16, "Returns the grade of a lot.", "Returns the grade.");
        grade.after("offer 0 e 0; offer 1 a 1").answers("gradeOf 0", 'e').answers("gradeOf 1", 'a');
        grade.after(MIXED).answers("gradeOf 1", 'b').answers("gradeOf 2", 'c').answers("gradeOf 4", 'e');
        Claim reserve = says(17, "Returns the reserve of a lot.", "Returns the reserve.");
        reserve.after("offer 0 a 999; offer 1 b 0").answers("reserveOf 0", 999).answers("reserveOf 1", 0);
        reserve.after(MIXED).answers("reserveOf 0", 10).answers("reserveOf 2", 30).answers("reserveOf 4", 999);
        noSuchLot(15, "fibreOf");
        noSuchLot(16, "gradeOf");
        noSuchLot(17, "reserveOf");
        noSuchLot(18, "lotState");
        noSuchLot(19, "soldTo");
        fibre.after(withdrawnLots(40)).answers("fibreOf 39", 0);
    }

    private void noSuchLot(int promise, String method) {
        Claim claim = refusal(promise, NO_SUCH, NO_LOT);
        claim.afterNothing().refuses(method + " 0", method + " -1");
        claim.after("bid 0 0; bid 0 0").refuses(method + " 0");
        claim.after(MIXED).refuses(each(method + " %", NO_LOTS_OF_MIXED));
        claim.after(soldRounds(5)).refuses(method + " 40");
    }

    private void lotState() {
        Claim claim = says(18, "Returns what has become of a lot.",
                "Returns 'o' if it is open, 's' if it is sold, 'w' if it is withdrawn.");
        claim.after(MIXED).answers("lotState 0", 's').answers("lotState 1", 's').answers("lotState 2", 'o')
                .answers("lotState 3", 'o').answers("lotState 4", 'w');
        claim.after(MIXED + "; close").answers("lotState 0", 's').answers("lotState 2", 's')
                .answers("lotState 3", 's').answers("lotState 4", 'w');
        claim.after(soldRounds(5)).answers("lotState 0", 's').answers("lotState 39", 's');
        claim.after(withdrawnLots(40)).answers("lotState 0", 'w').answers("lotState 39", 'w');
    }

    private void soldTo() {
        Claim claim = says(19, "Returns the bid to which a lot was sold.", "Returns the bid.");
        claim.after("offer 0 a 0; bid 0 0 0a; close").answers("soldTo 0", 0);
        claim.after(MIXED).answers("soldTo 0", 0).answers("soldTo 1", 1);
        claim.after(MIXED + "; close").answers("soldTo 0", 0).answers("soldTo 2", 8).answers("soldTo 3", 8);
        claim.after(soldRounds(5)).answers("soldTo 0", 0).answers("soldTo 8", 8).answers("soldTo 39", 39);
        Claim unsold = refusal(19, STATE, "it is not sold");
        unsold.after("offer 0 a 0; bid 0 0 0a").refuses("soldTo 0");
        unsold.after("offer 0 a 1; bid 0 0 0a; close").refuses("soldTo 0");
        unsold.after(MIXED).refuses("soldTo 2", "soldTo 3", "soldTo 4").answers("soldTo 0", 0);
    }

    private void countOf() {
        Claim claim = says(20, "Returns the number of open lots of a fibre and a grade.",
                "Returns the number of lots.");
        claim.afterNothing().answers("countOf 0 a", 0).answers("countOf 3 e", 0);
        claim.after(EIGHT_LOTS).answers("countOf 0 a", 8).answers("countOf 0 b", 0).answers("countOf 1 a", 0);
        claim.after(EIGHT_LOTS + "; withdraw 0").answers("countOf 0 a", 7);
        claim.after("7 x offer 3 e 0; offer 3 d 0").answers("countOf 3 e", 7).answers("countOf 3 d", 1);
        claim.after(EIGHT_WINNERS + "; close").answers("countOf 0 a", 0);
        claim.after(MIXED).answers("countOf 0 a", 1).answers("countOf 0 b", 0).answers("countOf 1 c", 1)
                .answers("countOf 3 e", 0).answers("countOf 0 c", 0);
        refusal(20, ARGUMENT, "the fibre or the grade is out of range").after(MIXED)
                .refuses(each("countOf % a", OFF_FIBRES)).refuses(each("countOf 0 %", OFF_GRADES))
                .refuses("countOf 4 f");
    }
}
