/** Items and rules: "Items and rules" of the terms, promises 4, 5, 22 and 23. */
final class RuleSentences extends Sentences {
    RuleSentences(Book book) {
        super(book);
    }

    @Override
    void test() {
        itemsOfTheTerms();
        fitWithoutRules();
        stepsOfTheTerms();
        sixRules();
        sameFibreTwice();
        rulesAsTheyAre();
        allow();
        forbid();
        fits();
        fitting();
    }

    private void itemsOfTheTerms() {
        term("Items and rules", "An item of a bid asks for a fibre and a grade.")
                .after("offer 2 c 0; offer 2 d 0; offer 1 c 0; bid 0 0 2c").answers("fits 0 0 0", true)
                .answers("fits 1 0 0", false).answers("fits 2 0 0", false);
    }

    private void fitWithoutRules() {
        Claim claim = term("Items and rules",
                "A lot fits an item if it has the same fibre and a grade that is not worse.");
        for (char lot = 'a'; lot <= 'e'; lot++) {
            for (char item = 'a'; item <= 'e'; item++) {
                claim.after("offer 1 " + lot + " 0; bid 0 9 1" + item).answers("fits 0 0 0", lot <= item)
                        .answers("fitting 0 0", lot <= item ? 1 : 0);
            }
        }
        for (int lot = 0; lot <= 3; lot++) {
            for (int item = 0; item <= 3; item++) {
                claim.after("offer " + lot + " a 0; bid 0 9 " + item + "e").answers("fits 0 0 0", lot == item)
                        .answers("surplus", lot == item ? 9 : 0).answers("surplusBySets", lot == item ? 9 : 0);
            }
        }
    }

    private Claim atMostSixRules() {
        return term("Items and rules", "At most 6 rules let other lots fit: a rule has a fibre, another fibre,"
                + " and a number of steps from 0 to 4, and lets a lot of the other fibre fit an item of the fibre if"
                + " the grade of the lot is better than that of the item by at least as many grades as the rule has"
                + " steps; with 0 steps, the same grade is good enough, too.");
    }

    private void stepsOfTheTerms() {
        Claim claim = atMostSixRules();
        for (int steps = 0; steps <= 4; steps++) {
            for (char lot = 'a'; lot <= 'e'; lot++) {
                for (char item = 'a'; item <= 'e'; item++) {
                    claim.after("allow 0 3 " + steps + "; offer 3 " + lot + " 0; bid 0 9 0" + item + " 1e")
                            .answers("fits 0 0 0", item - lot >= steps).answers("fits 0 0 1", false);
                }
            }
        }
        claim.after("allow 0 3 0; offer 0 a 0; bid 0 9 3e").answers("fits 0 0 0", false);
        claim.after("allow 0 1 0; allow 1 2 0; offer 2 a 0; bid 0 9 0e").answers("fits 0 0 0", false);
        claim.after("allow 0 3 4; offer 0 c 0; bid 0 9 0c").answers("fits 0 0 0", true);
        claim.after("allow 0 1 4; allow 0 1 1; allow 0 1 3; offer 1 b 0; bid 0 9 0c").answers("fits 0 0 0", true);
        claim.after("allow 0 1 4; allow 0 1 2; allow 0 1 3; offer 1 b 0; bid 0 9 0c").answers("fits 0 0 0", false);
        claim.afterNothing().refuses(ARGUMENT, "allow 0 1 -1").refuses(ARGUMENT, "allow 0 1 5");
    }

    private void sixRules() {
        Claim claim = atMostSixRules();
        claim.after("5 x allow 3 2 4").answers("allow 0 1 0", 6);
        claim.after("5 x allow 3 2 4; allow 0 1 0; offer 1 a 0; bid 0 9 0a").answers("fits 0 0 0", true)
                .answers("surplus", 9);
        claim.after("allow 0 1 0; 5 x allow 3 2 4; offer 1 a 0; bid 0 9 0a").answers("fits 0 0 0", true);
        claim.after(SIX_RULES + "; offer 1 a 0; bid 0 9 0a").refuses(STATE, "allow 0 1 0")
                .answers("fits 0 0 0", false);
    }

    private void sameFibreTwice() {
        Claim claim = term("Items and rules", "A rule may have the same fibre twice.");
        for (int fibre = 0; fibre <= 3; fibre++) {
            claim.afterNothing().answers("allow " + fibre + " " + fibre + " 0", 1);
        }
        claim.after("allow 2 2 0; forbid").answers("allow 2 2 4", 1);
        String lots = "offer 2 a 0; offer 2 c 0; offer 2 d 0; offer 1 a 0; bid 0 0 2c; ";
        for (int steps = 0; steps <= 4; steps++) {
            claim.after(lots + "allow 2 2 " + steps).answers("fits 0 0 0", true).answers("fits 1 0 0", true)
                    .answers("fits 2 0 0", false).answers("fits 3 0 0", false).answers("fitting 0 0", 2);
        }
    }

    private void rulesAsTheyAre() {
        Claim claim = term("Items and rules", "Rules count as they are when something is asked for or closed.");
        String past = "offer 1 a 10; bid 3 100 0a";
        claim.after(past).answers("fits 0 0 0", false).answers("fitting 0 0", 0).answers("surplus", 0)
                .answers("surplusBySets", 0).answers("surplusWithout 0", 0).answers("wouldWin 0", false)
                .answers("wouldWinBySets 0", false).answers("close", 0).refuses(UNSUPPORTED, "costOf 0")
                .refuses(UNSUPPORTED, "lotFor 0 0").refuses(UNSUPPORTED, "payment 0");
        claim.after(past + "; allow 0 1 0; forbid").answers("fits 0 0 0", false).answers("fitting 0 0", 0)
                .answers("surplus", 0).answers("surplusBySets", 0).answers("surplusWithout 0", 0)
                .answers("wouldWin 0", false).answers("wouldWinBySets 0", false).answers("close", 0)
                .refuses(UNSUPPORTED, "costOf 0").refuses(UNSUPPORTED, "lotFor 0 0");
        claim.after(past + "; surplus; allow 0 1 0").answers("fits 0 0 0", true).answers("fitting 0 0", 1)
                .answers("surplus", 90).answers("surplusBySets", 90).answers("surplusWithout 0", 90)
                .answers("wouldWin 0", true).answers("wouldWinBySets 0", true).answers("close", 1)
                .answers("costOf 0", 10).answers("lotFor 0 0", 0).answers("payment 0", 10);
        claim.after(past + "; close; allow 0 1 0").answers("reason 0", 'l').answers("fits 0 0 0", true);
        claim.after(past + "; allow 0 1 0; close; forbid").answers("lotOf 0 0", 0).answers("paid 0", 10)
                .answers("fits 0 0 0", false);
    }

    private void allow() {
        says(4, "Adds a rule.").after("offer 2 a 0; offer 3 b 0; bid 0 0 1b; allow 1 2 1; allow 1 3 0")
                .answers("fits 0 0 0", true).answers("fits 1 0 0", true);
        Claim count = says(4, "Returns the number of rules after the call.");
        count.afterNothing().answers("allow 0 3 0", 1).answers("allow 3 0 4", 1);
        for (int rules = 1; rules <= 5; rules++) {
            count.after(rules + " x allow 0 3 0").answers("allow 0 3 0", rules + 1);
        }
        count.after("allow 0 1 0; forbid").answers("allow 0 1 0", 1);
        refusal(4, ARGUMENT, "a fibre or the number of steps is out of range").after(MIXED)
                .refuses(each("allow % 0 0", OFF_FIBRES)).refuses(each("allow 0 % 0", OFF_FIBRES))
                .refuses(each("allow 0 1 %", OFF_STEPS)).answers("allow 3 0 4", 2).answers("allow 0 3 0", 2);
        Claim full = refusal(4, STATE, "there are 6 rules");
        full.after("5 x allow 0 1 0").answers("allow 0 1 0", 6);
        full.after(SIX_RULES).refuses("allow 0 1 0", "allow 3 3 4");
        full.after(MIXED + "; 5 x allow 3 2 4").refuses("allow 0 1 0", "allow 2 2 0");
        full.after(SIX_RULES + "; forbid").answers("allow 0 1 0", 6);
    }

    private void forbid() {
        String past = "offer 1 a 0; offer 2 a 0; offer 3 a 0; bid 0 0 0a; allow 0 3 0; allow 0 1 0; allow 0 2 0; ";
        Claim last = says(5, "Removes the rule that was added last.");
        last.after(past + "forbid").answers("fits 0 0 0", true).answers("fits 1 0 0", false)
                .answers("fits 2 0 0", true);
        last.after(past + "forbid; forbid").answers("fits 0 0 0", false).answers("fits 1 0 0", false)
                .answers("fits 2 0 0", true);
        last.after(past + "forbid; forbid; forbid").answers("fits 2 0 0", false);
        last.after(past + "allow 0 2 0; forbid").answers("fits 1 0 0", true);
        Claim count = says(5, "Returns the number of rules after the call.");
        for (int rules = 1; rules <= 6; rules++) {
            count.after(rules + " x allow 0 3 0").answers("forbid", rules - 1);
        }
        count.after("6 x allow 0 3 0; forbid").answers("forbid", 4);
        Claim none = refusal(5, STATE, "there are no rules");
        none.afterNothing().refuses("forbid");
        none.after("allow 0 1 0").answers("forbid", 0);
        none.after("allow 0 1 0; forbid").refuses("forbid");
        none.after(SIX_RULES + "; 6 x forbid").refuses("forbid");
        none.after(MIXED + "; forbid").refuses("forbid");
    }

    private void fits() {
        Claim claim = says(22, "Returns whether a lot, open or not, fits an item of a bid.",
                "Returns true if it does.");
        claim.after(MIXED).answers("fits 0 8 0", true).answers("fits 1 8 0", true).answers("fits 2 8 0", false)
                .answers("fits 3 8 0", true).answers("fits 4 8 0", false).answers("fits 2 8 1", true)
                .answers("fits 3 8 1", false).answers("fits 0 0 0", true).answers("fits 0 2 0", true)
                .answers("fits 2 7 0", true).answers("fits 3 4 0", false).answers("fits 1 5 0", false);
        claim.after("offer 0 b 0; bid 0 0 0b; withdraw 0; cancel 0").answers("fits 0 0 0", true);
        claim.after("offer 0 b 0; bid 0 0 0a; withdraw 0; cancel 0").answers("fits 0 0 0", false);
        claim.after("offer 0 c 0; bid 0 9 0c 0b 0d").answers("fits 0 0 0", true).answers("fits 0 0 1", false)
                .answers("fits 0 0 2", true);
        Claim none = refusal(22, NO_SUCH, "there is no such lot or no such bid");
        none.afterNothing().refuses("fits 0 0 0");
        none.after("offer 0 a 0").refuses("fits 0 0 0");
        none.after("bid 0 0 0a").refuses("fits 0 0 0");
        none.after(MIXED).refuses(each("fits % 8 0", NO_LOTS_OF_MIXED)).refuses(each("fits 0 % 0", NO_BIDS_OF_MIXED))
                .refuses("fits 5 10 0", "fits -1 -1 0");
        Claim item = refusal(22, INDEX, NO_ITEM);
        item.after("offer 0 a 0; bid 0 0").refuses("fits 0 0 0", "fits 0 0 -1");
        item.after("offer 0 a 0; bid 0 0 0a 0a 0a").answers("fits 0 0 2", true).refuses("fits 0 0 3", "fits 0 0 -1");
        item.after(MIXED).refuses("fits 3 8 2", "fits 3 8 -1", "fits 3 9 1", "fits 0 0 1", "fits 4 7 1", "fits 2 3 0",
                "fits 3 8 2147483647", "fits 3 8 -2147483648");
    }

    private void fitting() {
        Claim claim = says(23, "Returns the number of open lots that fit an item of a bid.",
                "Returns the number of lots.");
        claim.after("bid 0 0 0e").answers("fitting 0 0", 0);
        claim.after(EIGHT_LOTS + "; bid 0 0 0a 0e 1e").answers("fitting 0 0", 8).answers("fitting 0 1", 8)
                .answers("fitting 0 2", 0);
        claim.after(EIGHT_LOTS + "; bid 0 0 0a; withdraw 0").answers("fitting 0 0", 7);
        claim.after(EIGHT_WINNERS + "; close").answers("fitting 0 0", 0).answers("fitting 7 0", 0);
        claim.after("offer 0 b 0; offer 0 c 0; offer 0 d 0; bid 0 0 0c 0d 0a").answers("fitting 0 0", 2)
                .answers("fitting 0 1", 3).answers("fitting 0 2", 0);
        claim.after(MIXED).answers("fitting 8 0", 1).answers("fitting 8 1", 1).answers("fitting 7 0", 1)
                .answers("fitting 0 0", 1).answers("fitting 2 0", 1).answers("fitting 4 0", 0);
        Claim none = refusal(23, NO_SUCH, NO_BID);
        none.afterNothing().refuses("fitting 0 0");
        none.after(MIXED).refuses(each("fitting % 0", NO_BIDS_OF_MIXED));
        Claim item = refusal(23, INDEX, NO_ITEM);
        item.after("offer 0 a 0; bid 0 0").refuses("fitting 0 0", "fitting 0 -1");
        item.after("offer 0 a 0; bid 0 0 0a 0a 0a").answers("fitting 0 2", 1).refuses("fitting 0 3", "fitting 0 -1");
        item.after(MIXED).refuses("fitting 8 2", "fitting 8 -1", "fitting 9 1", "fitting 0 1", "fitting 3 0",
                "fitting 7 1", "fitting 8 2147483647", "fitting 8 -2147483648");
    }
}
