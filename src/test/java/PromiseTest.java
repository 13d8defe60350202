import java.util.NoSuchElementException;

/** Each promise of the document by its number: ordinary inputs, the edges that it names, and wrong inputs. */
public final class PromiseTest {
    private static final Class<IllegalArgumentException> ARGUMENT = IllegalArgumentException.class;
    private static final Class<IllegalStateException> STATE = IllegalStateException.class;
    private static final Class<NoSuchElementException> NO_SUCH = NoSuchElementException.class;
    private static final Class<IndexOutOfBoundsException> INDEX = IndexOutOfBoundsException.class;
    private static final Class<UnsupportedOperationException> UNSUPPORTED = UnsupportedOperationException.class;
    private static final Class<ArithmeticException> ARITHMETIC = ArithmeticException.class;

    private static final Check CHECK = new Check();

    private PromiseTest() {
    }

    public static void main(String[] args) {
        promise1NewObject();
        promise2Offer();
        promise2OfferLimits();
        promise3Withdraw();
        promise4Allow();
        promise5Forbid();
        promise6Bid();
        promise6BidLimits();
        promise7Ask();
        promise8Raise();
        promise9Cancel();
        promise10Close();
        promise10PaymentsBeforeSelling();
        promises11To14Counts();
        promises15To18Lots();
        promise19SoldTo();
        promise20CountOf();
        promise21Items();
        promise22Fits();
        promise22FitsByRules();
        promise23Fitting();
        promises24And25Bids();
        promise26Reasons();
        promise26FirstReasonThatApplies();
        promise27Rival();
        promise28LotOf();
        promise29Paid();
        promise30CostOf();
        promises31And32Surplus();
        promise31OneBidOfEachBidder();
        promises31To37EachOnItsOwn();
        promise33SurplusWithout();
        promises34And35WouldWin();
        promises34And35Ties();
        promise36LotFor();
        promise36LotForTies();
        promise37Payment();
        promise38Takings();
        promise39SoldShare();
        promise40MeanPaid();
        rulesCountAsTheyAre();
        CHECK.end();
    }

    private static void same(String what, Object got, Object due) {
        CHECK.same(what, got, due);
    }

    private static void fails(String what, Class<? extends RuntimeException> due, Check.Call call) {
        CHECK.fails(what, due, call);
    }

    /** Makes a bid whose items are told as texts of a fibre and a grade, such as "0c". */
    private static int bid(SkeinMarket market, int bidder, int price, String... items) {
        int bid = market.bid(bidder, price);
        for (String item : items) {
            market.ask(bid, item.charAt(0) - '0', item.charAt(1));
        }
        return bid;
    }

    /** Two lots of fibre 0 with reserves 10 and 20; bids 0 and 1 contend, bid 2 gets nothing that fits. */
    private static SkeinMarket small() {
        SkeinMarket market = new SkeinMarket();
        market.offer(0, 'a', 10);
        market.offer(0, 'c', 20);
        bid(market, 0, 100, "0b");
        bid(market, 1, 70, "0b");
        bid(market, 2, 500, "3e");
        return market;
    }

    private static void promise1NewObject() {
        SkeinMarket market = new SkeinMarket();
        same("1 lots", market.lots(), 0);
        same("1 bids", market.bids(), 0);
        same("1 open lots", market.openLots(), 0);
        same("1 open bids", market.openBids(), 0);
        same("1 surplus", market.surplus(), 0);
        same("1 surplus by sets", market.surplusBySets(), 0);
        same("1 surplus without", market.surplusWithout(0), 0);
        same("1 takings", market.takings(), 0L);
        same("1 count", market.countOf(0, 'a'), 0);
        fails("1 no rules", STATE, market::forbid);
        SkeinMarket other = new SkeinMarket();
        market.offer(0, 'a', 1);
        same("1 markets are apart", other.lots(), 0);
    }

    private static void promise2Offer() {
        SkeinMarket market = new SkeinMarket();
        same("2 first", market.offer(0, 'a', 0), 0);
        same("2 second", market.offer(3, 'e', 999), 1);
        same("2 reserve", market.reserveOf(1), 999);
        same("2 open", market.lotState(1), 'o');
        fails("2 fibre -1", ARGUMENT, () -> market.offer(-1, 'a', 0));
        fails("2 fibre 4", ARGUMENT, () -> market.offer(4, 'a', 0));
        fails("2 grade below a", ARGUMENT, () -> market.offer(0, '`', 0));
        fails("2 grade f", ARGUMENT, () -> market.offer(0, 'f', 0));
        fails("2 grade A", ARGUMENT, () -> market.offer(0, 'A', 0));
        fails("2 reserve -1", ARGUMENT, () -> market.offer(0, 'a', -1));
        fails("2 reserve 1000", ARGUMENT, () -> market.offer(0, 'a', 1000));
        fails("2 least int", ARGUMENT, () -> market.offer(0, 'a', Integer.MIN_VALUE));
        same("2 nothing changed", market.lots(), 2);
        same("2 nothing changed among the open", market.openLots(), 2);
    }

    private static void promise2OfferLimits() {
        SkeinMarket market = new SkeinMarket();
        for (int lot = 0; lot < 8; lot++) {
            same("2 lot", market.offer(0, 'a', lot), lot);
        }
        fails("2 ninth open", STATE, () -> market.offer(0, 'a', 0));
        fails("2 argument before state", ARGUMENT, () -> market.offer(9, 'a', 0));
        for (int lot = 8; lot < 40; lot++) {
            market.withdraw(lot - 8);
            same("2 lot after a withdrawal", market.offer(0, 'a', 0), lot);
        }
        market.withdraw(39);
        fails("2 forty-first", STATE, () -> market.offer(0, 'a', 0));
        same("2 forty", market.lots(), 40);
        same("2 seven open", market.openLots(), 7);
    }

    private static void promise3Withdraw() {
        SkeinMarket market = new SkeinMarket();
        fails("3 none yet", NO_SUCH, () -> market.withdraw(0));
        market.offer(0, 'a', 0);
        market.offer(0, 'a', 0);
        same("3 one left", market.withdraw(0), 1);
        same("3 state", market.lotState(0), 'w');
        fails("3 twice", STATE, () -> market.withdraw(0));
        fails("3 -1", NO_SUCH, () -> market.withdraw(-1));
        fails("3 beyond", NO_SUCH, () -> market.withdraw(2));
        bid(market, 0, 10, "0a");
        market.close();
        fails("3 sold", STATE, () -> market.withdraw(1));
        same("3 sold stays sold", market.lotState(1), 's');
        same("3 none open", market.openLots(), 0);
    }

    private static void promise4Allow() {
        SkeinMarket market = new SkeinMarket();
        same("4 first", market.allow(0, 3, 0), 1);
        same("4 same fibre twice", market.allow(2, 2, 4), 2);
        fails("4 fibre -1", ARGUMENT, () -> market.allow(-1, 0, 0));
        fails("4 fibre 4", ARGUMENT, () -> market.allow(4, 0, 0));
        fails("4 other -1", ARGUMENT, () -> market.allow(0, -1, 0));
        fails("4 other 4", ARGUMENT, () -> market.allow(0, 4, 0));
        fails("4 steps -1", ARGUMENT, () -> market.allow(0, 1, -1));
        fails("4 steps 5", ARGUMENT, () -> market.allow(0, 1, 5));
        for (int rules = 3; rules <= 6; rules++) {
            same("4 rules", market.allow(0, 3, 0), rules);
        }
        fails("4 seventh", STATE, () -> market.allow(0, 1, 0));
        fails("4 argument before state", ARGUMENT, () -> market.allow(0, 1, 5));
        same("4 nothing changed", market.forbid(), 5);
    }

    private static void promise5Forbid() {
        SkeinMarket market = new SkeinMarket();
        fails("5 none", STATE, market::forbid);
        market.offer(1, 'a', 0);
        market.offer(2, 'a', 0);
        bid(market, 0, 1, "0a");
        market.allow(0, 1, 0);
        market.allow(0, 2, 0);
        same("5 removes", market.forbid(), 1);
        same("5 the first rule stays", market.fits(0, 0, 0), true);
        same("5 the last rule goes", market.fits(1, 0, 0), false);
        same("5 removes again", market.forbid(), 0);
        same("5 no rule is left", market.fits(0, 0, 0), false);
        fails("5 none left", STATE, market::forbid);
    }

    private static void promise6Bid() {
        SkeinMarket market = new SkeinMarket();
        same("6 first", market.bid(0, 0), 0);
        same("6 second", market.bid(7, 9999), 1);
        same("6 same bidder", market.bid(7, 5), 2);
        same("6 no items", market.items(1), 0);
        same("6 open", market.stateOf(1), 'o');
        same("6 price", market.priceOf(1), 9999);
        fails("6 bidder -1", ARGUMENT, () -> market.bid(-1, 0));
        fails("6 bidder 8", ARGUMENT, () -> market.bid(8, 0));
        fails("6 price -1", ARGUMENT, () -> market.bid(0, -1));
        fails("6 price 10000", ARGUMENT, () -> market.bid(0, 10000));
        same("6 nothing changed", market.bids(), 3);
        same("6 nothing changed among the open", market.openBids(), 3);
    }

    private static void promise6BidLimits() {
        SkeinMarket market = new SkeinMarket();
        for (int bid = 0; bid < 8; bid++) {
            same("6 bid", market.bid(bid, 0), bid);
        }
        fails("6 ninth open", STATE, () -> market.bid(0, 0));
        fails("6 argument before state", ARGUMENT, () -> market.bid(8, 0));
        for (int bid = 8; bid < 40; bid++) {
            market.cancel(bid - 8);
            same("6 bid after a cancel", market.bid(0, 0), bid);
        }
        market.close();
        fails("6 forty-first", STATE, () -> market.bid(0, 0));
        same("6 forty", market.bids(), 40);
    }

    private static void promise7Ask() {
        SkeinMarket market = new SkeinMarket();
        market.bid(0, 0);
        same("7 first", market.ask(0, 0, 'a'), 1);
        fails("7 no bid", NO_SUCH, () -> market.ask(1, 0, 'a'));
        fails("7 bid -1", NO_SUCH, () -> market.ask(-1, 0, 'a'));
        fails("7 no bid before argument", NO_SUCH, () -> market.ask(1, 4, 'a'));
        fails("7 fibre -1", ARGUMENT, () -> market.ask(0, -1, 'a'));
        fails("7 fibre 4", ARGUMENT, () -> market.ask(0, 4, 'a'));
        fails("7 grade f", ARGUMENT, () -> market.ask(0, 0, 'f'));
        fails("7 grade below a", ARGUMENT, () -> market.ask(0, 0, '`'));
        same("7 second", market.ask(0, 3, 'e'), 2);
        same("7 third", market.ask(0, 0, 'a'), 3);
        fails("7 fourth", STATE, () -> market.ask(0, 0, 'a'));
        fails("7 argument before state", ARGUMENT, () -> market.ask(0, 0, 'f'));
        same("7 nothing changed", market.items(0), 3);
        market.bid(1, 0);
        market.cancel(1);
        fails("7 cancelled", STATE, () -> market.ask(1, 0, 'a'));
        same("7 still without items", market.items(1), 0);
    }

    private static void promise8Raise() {
        SkeinMarket market = new SkeinMarket();
        market.bid(0, 10);
        same("8 before", market.raise(0, 11), 10);
        same("8 to the limit", market.raise(0, 9999), 11);
        same("8 price", market.priceOf(0), 9999);
        market.bid(0, 50);
        fails("8 same price", ARGUMENT, () -> market.raise(1, 50));
        fails("8 less", ARGUMENT, () -> market.raise(1, 49));
        fails("8 negative", ARGUMENT, () -> market.raise(1, -1));
        fails("8 10000", ARGUMENT, () -> market.raise(1, 10000));
        fails("8 no bid", NO_SUCH, () -> market.raise(2, -1));
        fails("8 bid -1", NO_SUCH, () -> market.raise(-1, 60));
        same("8 nothing changed", market.priceOf(1), 50);
        market.cancel(1);
        fails("8 cancelled", STATE, () -> market.raise(1, 60));
        fails("8 state before argument", STATE, () -> market.raise(1, 10000));
    }

    private static void promise9Cancel() {
        SkeinMarket market = small();
        same("9 price", market.cancel(0), 100);
        same("9 state", market.stateOf(0), 'c');
        same("9 open", market.openBids(), 2);
        same("9 surplus", market.surplus(), 60);
        fails("9 twice", STATE, () -> market.cancel(0));
        fails("9 no bid", NO_SUCH, () -> market.cancel(3));
        fails("9 bid -1", NO_SUCH, () -> market.cancel(-1));
        market.close();
        fails("9 won", STATE, () -> market.cancel(1));
        fails("9 lost", STATE, () -> market.cancel(2));
        same("9 stays cancelled", market.stateOf(0), 'c');
    }

    private static void promise10Close() {
        SkeinMarket market = small();
        same("10 sold", market.close(), 1);
        same("10 winner", market.stateOf(0), 'w');
        same("10 loser", market.stateOf(1), 'l');
        same("10 other loser", market.stateOf(2), 'l');
        same("10 lot sold", market.lotState(0), 's');
        same("10 lot stays", market.lotState(1), 'o');
        same("10 lots", market.openLots(), 1);
        same("10 bids", market.openBids(), 0);
        fails("10 no bid open", STATE, market::close);
        fails("10 new object", STATE, () -> new SkeinMarket().close());
        bid(market, 1, 5);
        same("10 nothing sold", market.close(), 0);
        same("10 all lose", market.stateOf(3), 'l');
        bid(market, 4, 40, "0d");
        same("10 the lot that stayed", market.close(), 1);
        same("10 sold later", market.soldTo(1), 4);
    }

    /** Two winners, each of which would pay nothing if the other's lot were gone before. */
    private static void promise10PaymentsBeforeSelling() {
        SkeinMarket market = new SkeinMarket();
        market.offer(0, 'a', 10);
        market.offer(0, 'a', 20);
        bid(market, 0, 100, "0a");
        bid(market, 1, 90, "0a");
        bid(market, 2, 50, "0a");
        same("10 two sold", market.close(), 2);
        same("10 first payment", market.paid(0), 50);
        same("10 second payment", market.paid(1), 50);
        same("10 takings", market.takings(), 100L);
    }

    private static void promises11To14Counts() {
        SkeinMarket market = small();
        same("11", market.lots(), 2);
        same("12", market.bids(), 3);
        same("13", market.openLots(), 2);
        same("14", market.openBids(), 3);
        market.withdraw(1);
        market.cancel(2);
        same("11 with a withdrawn one", market.lots(), 2);
        same("12 with a cancelled one", market.bids(), 3);
        same("13 without the withdrawn one", market.openLots(), 1);
        same("14 without the cancelled one", market.openBids(), 2);
        market.close();
        same("11 after a closing", market.lots(), 2);
        same("12 after a closing", market.bids(), 3);
        same("13 after a closing", market.openLots(), 0);
        same("14 after a closing", market.openBids(), 0);
    }

    private static void promises15To18Lots() {
        SkeinMarket market = new SkeinMarket();
        market.offer(2, 'd', 345);
        market.offer(0, 'a', 0);
        same("15", market.fibreOf(0), 2);
        same("16", market.gradeOf(0), 'd');
        same("17", market.reserveOf(0), 345);
        same("18", market.lotState(0), 'o');
        same("15 second", market.fibreOf(1), 0);
        same("16 second", market.gradeOf(1), 'a');
        same("17 second", market.reserveOf(1), 0);
        market.withdraw(0);
        bid(market, 0, 0, "0a");
        market.close();
        same("15 withdrawn", market.fibreOf(0), 2);
        same("18 withdrawn", market.lotState(0), 'w');
        same("18 sold", market.lotState(1), 's');
        for (int wrong : new int[] {-1, 2, 40, Integer.MIN_VALUE, Integer.MAX_VALUE}) {
            fails("15 no lot", NO_SUCH, () -> market.fibreOf(wrong));
            fails("16 no lot", NO_SUCH, () -> market.gradeOf(wrong));
            fails("17 no lot", NO_SUCH, () -> market.reserveOf(wrong));
            fails("18 no lot", NO_SUCH, () -> market.lotState(wrong));
        }
    }

    private static void promise19SoldTo() {
        SkeinMarket market = small();
        fails("19 open", STATE, () -> market.soldTo(0));
        bid(market, 3, 95, "0c");
        market.close();
        same("19 to the first", market.soldTo(0), 0);
        same("19 to the last", market.soldTo(1), 3);
        market.offer(0, 'a', 0);
        market.withdraw(2);
        fails("19 withdrawn", STATE, () -> market.soldTo(2));
        fails("19 no lot", NO_SUCH, () -> market.soldTo(3));
        fails("19 lot -1", NO_SUCH, () -> market.soldTo(-1));
    }

    private static void promise20CountOf() {
        SkeinMarket market = new SkeinMarket();
        market.offer(1, 'b', 0);
        market.offer(1, 'b', 7);
        market.offer(1, 'c', 0);
        market.offer(2, 'b', 0);
        same("20 two", market.countOf(1, 'b'), 2);
        same("20 one", market.countOf(1, 'c'), 1);
        same("20 none", market.countOf(1, 'a'), 0);
        same("20 edges", market.countOf(3, 'e'), 0);
        market.withdraw(0);
        same("20 open only", market.countOf(1, 'b'), 1);
        bid(market, 0, 9, "2b");
        market.close();
        same("20 not sold ones", market.countOf(2, 'b'), 0);
        fails("20 fibre 4", ARGUMENT, () -> market.countOf(4, 'a'));
        fails("20 fibre -1", ARGUMENT, () -> market.countOf(-1, 'a'));
        fails("20 grade f", ARGUMENT, () -> market.countOf(0, 'f'));
        fails("20 grade below a", ARGUMENT, () -> market.countOf(0, '`'));
    }

    private static void promise21Items() {
        SkeinMarket market = new SkeinMarket();
        fails("21 none yet", NO_SUCH, () -> market.items(0));
        market.bid(0, 0);
        same("21 none", market.items(0), 0);
        market.ask(0, 0, 'a');
        market.ask(0, 0, 'a');
        same("21 two", market.items(0), 2);
        market.close();
        same("21 after a closing", market.items(0), 2);
        fails("21 beyond", NO_SUCH, () -> market.items(1));
        fails("21 -1", NO_SUCH, () -> market.items(-1));
    }

    private static void promise22Fits() {
        SkeinMarket market = new SkeinMarket();
        market.offer(0, 'a', 0);
        market.offer(0, 'c', 0);
        market.offer(0, 'd', 0);
        market.offer(1, 'a', 0);
        bid(market, 0, 0, "0c", "1a");
        same("22 better", market.fits(0, 0, 0), true);
        same("22 same grade", market.fits(1, 0, 0), true);
        same("22 worse", market.fits(2, 0, 0), false);
        same("22 other fibre", market.fits(3, 0, 0), false);
        same("22 second item", market.fits(3, 0, 1), true);
        market.withdraw(0);
        market.cancel(0);
        same("22 not open", market.fits(0, 0, 0), true);
        fails("22 no lot", NO_SUCH, () -> market.fits(4, 0, 0));
        fails("22 lot -1", NO_SUCH, () -> market.fits(-1, 0, 0));
        fails("22 no bid", NO_SUCH, () -> market.fits(0, 1, 0));
        fails("22 no bid before no item", NO_SUCH, () -> market.fits(0, 1, 9));
        fails("22 no lot before no item", NO_SUCH, () -> market.fits(4, 0, 9));
        fails("22 item 2", INDEX, () -> market.fits(0, 0, 2));
        fails("22 item -1", INDEX, () -> market.fits(0, 0, -1));
    }

    private static void promise22FitsByRules() {
        for (int steps = 0; steps <= 4; steps++) {
            SkeinMarket market = new SkeinMarket();
            market.allow(0, 1, steps);
            bid(market, 0, 0, "0e", "1a");
            for (int grade = 0; grade < 5; grade++) {
                market.offer(1, (char) ('a' + grade), 0);
                same("22 steps " + steps + ", grade " + grade, market.fits(grade, 0, 0), grade + steps <= 4);
            }
            market.offer(0, 'a', 0);
            same("22 not the other way round", market.fits(5, 0, 1), false);
        }
        SkeinMarket market = new SkeinMarket();
        market.offer(0, 'c', 0);
        market.offer(2, 'a', 0);
        bid(market, 0, 0, "0c");
        market.allow(0, 0, 2);
        same("22 a rule of one fibre takes nothing away", market.fits(0, 0, 0), true);
        market.allow(0, 1, 0);
        market.allow(1, 2, 0);
        same("22 rules do not chain", market.fits(1, 0, 0), false);
        market.allow(0, 2, 3);
        same("22 too many steps", market.fits(1, 0, 0), false);
        market.allow(0, 2, 2);
        same("22 any of the rules", market.fits(1, 0, 0), true);
    }

    private static void promise23Fitting() {
        SkeinMarket market = new SkeinMarket();
        bid(market, 0, 0, "0c", "1a");
        same("23 none", market.fitting(0, 0), 0);
        market.offer(0, 'a', 0);
        market.offer(0, 'c', 0);
        market.offer(0, 'd', 0);
        market.offer(1, 'a', 0);
        same("23 two", market.fitting(0, 0), 2);
        same("23 second item", market.fitting(0, 1), 1);
        market.allow(0, 1, 2);
        same("23 by a rule", market.fitting(0, 0), 3);
        market.withdraw(0);
        same("23 open ones only", market.fitting(0, 0), 2);
        market.cancel(0);
        same("23 of any bid", market.fitting(0, 0), 2);
        fails("23 no bid", NO_SUCH, () -> market.fitting(1, 0));
        fails("23 no bid before no item", NO_SUCH, () -> market.fitting(-1, -1));
        fails("23 item 2", INDEX, () -> market.fitting(0, 2));
        fails("23 item -1", INDEX, () -> market.fitting(0, -1));
    }

    private static void promises24And25Bids() {
        SkeinMarket market = small();
        same("24", market.priceOf(1), 70);
        same("25 open", market.stateOf(1), 'o');
        bid(market, 3, 1);
        market.cancel(3);
        market.close();
        same("24 after a closing", market.priceOf(0), 100);
        same("25 won", market.stateOf(0), 'w');
        same("25 lost", market.stateOf(1), 'l');
        same("25 cancelled", market.stateOf(3), 'c');
        for (int wrong : new int[] {-1, 4, Integer.MIN_VALUE, Integer.MAX_VALUE}) {
            fails("24 no bid", NO_SUCH, () -> market.priceOf(wrong));
            fails("25 no bid", NO_SUCH, () -> market.stateOf(wrong));
        }
    }

    private static void promise26Reasons() {
        SkeinMarket market = new SkeinMarket();
        market.offer(0, 'a', 10);
        market.offer(0, 'e', 30);
        bid(market, 0, 100, "0a");
        bid(market, 1, 50);
        bid(market, 2, 900, "0a", "0a");
        bid(market, 3, 9, "0a");
        bid(market, 0, 60, "0a");
        bid(market, 4, 10, "0a");
        bid(market, 5, 29, "0e");
        fails("26 open", STATE, () -> market.reason(1));
        market.cancel(6);
        market.close();
        same("26 no items", market.reason(1), 'n');
        same("26 not possible alone", market.reason(2), 'l');
        same("26 less than 0", market.reason(3), 'p');
        same("26 another bid of the bidder", market.reason(4), 'b');
        same("26 exactly 0 is not less than 0", market.reason(5), 'm');
        fails("26 won", STATE, () -> market.reason(0));
        fails("26 cancelled", STATE, () -> market.reason(6));
        fails("26 no bid", NO_SUCH, () -> market.reason(7));
        fails("26 bid -1", NO_SUCH, () -> market.reason(-1));
    }

    /** All bids are of one bidder, whose bid 0 wins the only lot. */
    private static void promise26FirstReasonThatApplies() {
        SkeinMarket market = new SkeinMarket();
        market.offer(0, 'a', 10);
        bid(market, 0, 100, "0a");
        bid(market, 0, 5);
        bid(market, 0, 5, "1a");
        bid(market, 0, 5, "0a");
        bid(market, 0, 20, "0a");
        bid(market, 1, 20, "0a");
        market.close();
        same("26 n before b", market.reason(1), 'n');
        same("26 l before p", market.reason(2), 'l');
        same("26 p before b", market.reason(3), 'p');
        same("26 b before m", market.reason(4), 'b');
        same("26 by lots open before the closing", market.reason(5), 'm');
    }

    private static void promise27Rival() {
        SkeinMarket market = new SkeinMarket();
        market.offer(0, 'a', 0);
        market.offer(0, 'a', 0);
        bid(market, 3, 10, "0a");
        bid(market, 2, 20, "0a");
        bid(market, 3, 30, "0a");
        bid(market, 3, 40);
        bid(market, 5, 1, "0a");
        fails("27 open", STATE, () -> market.rival(0));
        market.close();
        same("27 rival", market.rival(0), 2);
        fails("27 won", STATE, () -> market.rival(2));
        fails("27 another reason", STATE, () -> market.rival(3));
        fails("27 reason m", STATE, () -> market.rival(4));
        fails("27 no bid", NO_SUCH, () -> market.rival(5));
        fails("27 bid -1", NO_SUCH, () -> market.rival(-1));
    }

    private static void promise28LotOf() {
        SkeinMarket market = new SkeinMarket();
        market.offer(1, 'a', 5);
        market.offer(0, 'a', 5);
        market.offer(0, 'a', 4);
        bid(market, 0, 100, "0a", "1a");
        bid(market, 1, 100, "0b");
        bid(market, 2, 1, "0b");
        fails("28 open", STATE, () -> market.lotOf(0, 0));
        same("28 sold", market.close(), 3);
        same("28 the lower number first", market.lotOf(0, 0), 1);
        same("28 second item", market.lotOf(0, 1), 0);
        same("28 second bid", market.lotOf(1, 0), 2);
        fails("28 lost", STATE, () -> market.lotOf(2, 0));
        fails("28 index before state", INDEX, () -> market.lotOf(2, 1));
        fails("28 item -1", INDEX, () -> market.lotOf(0, -1));
        fails("28 item 2", INDEX, () -> market.lotOf(0, 2));
        fails("28 no bid", NO_SUCH, () -> market.lotOf(3, 0));
        fails("28 no bid before no item", NO_SUCH, () -> market.lotOf(-1, -1));
    }

    private static void promise29Paid() {
        SkeinMarket market = small();
        fails("29 open", STATE, () -> market.paid(0));
        market.close();
        same("29 price of the loser", market.paid(0), 70);
        fails("29 lost", STATE, () -> market.paid(1));
        fails("29 no bid", NO_SUCH, () -> market.paid(3));
        fails("29 bid -1", NO_SUCH, () -> market.paid(-1));
        bid(market, 0, 50, "0c");
        market.close();
        same("29 alone it pays the reserve", market.paid(3), 20);
        same("29 the first payment stays", market.paid(0), 70);
    }

    private static void promise30CostOf() {
        SkeinMarket market = new SkeinMarket();
        market.offer(0, 'a', 50);
        market.offer(0, 'c', 20);
        market.offer(0, 'c', 30);
        bid(market, 0, 0, "0c", "0a");
        bid(market, 0, 0, "0c");
        bid(market, 0, 0);
        bid(market, 0, 0, "0a", "0a");
        bid(market, 0, 0, "0a", "0c", "0d");
        same("30 both lots are different", market.costOf(0), 70);
        same("30 the least", market.costOf(1), 20);
        same("30 three items", market.costOf(4), 100);
        fails("30 no items", UNSUPPORTED, () -> market.costOf(2));
        fails("30 one lot for two items", UNSUPPORTED, () -> market.costOf(3));
        fails("30 no bid", NO_SUCH, () -> market.costOf(5));
        fails("30 bid -1", NO_SUCH, () -> market.costOf(-1));
        market.cancel(3);
        fails("30 state before possible", STATE, () -> market.costOf(3));
        market.withdraw(2);
        fails("30 too few lots", UNSUPPORTED, () -> market.costOf(4));
        market.withdraw(1);
        same("30 open lots only", market.costOf(1), 50);
    }

    private static void bothSurpluses(String what, SkeinMarket market, int due) {
        same("31 " + what, market.surplus(), due);
        same("32 " + what, market.surplusBySets(), due);
    }

    private static void promises31And32Surplus() {
        bothSurpluses("no lots", new SkeinMarket(), 0);
        SkeinMarket market = small();
        bothSurpluses("the better of two", market, 90);
        market.raise(1, 130);
        bothSurpluses("after a raise", market, 120);
        bid(market, 3, 19, "0c");
        bothSurpluses("a bid below the reserve stays out", market, 120);
        bid(market, 4, 26, "0e");
        bothSurpluses("a bid for what is left", market, 126);
        SkeinMarket packages = new SkeinMarket();
        packages.offer(0, 'a', 10);
        packages.offer(0, 'a', 10);
        bid(packages, 0, 100, "0a", "0a");
        bid(packages, 1, 55, "0a");
        bid(packages, 2, 40, "0a");
        bothSurpluses("a package", packages, 80);
        packages.raise(2, 50);
        bothSurpluses("two singles", packages, 85);
        SkeinMarket poor = new SkeinMarket();
        poor.offer(0, 'a', 999);
        bid(poor, 0, 998, "0a");
        bothSurpluses("never below the empty set", poor, 0);
    }

    private static void promise31OneBidOfEachBidder() {
        SkeinMarket market = new SkeinMarket();
        market.offer(0, 'a', 0);
        market.offer(1, 'a', 0);
        bid(market, 0, 30, "0a");
        bid(market, 0, 40, "1a");
        bothSurpluses("one bid of a bidder", market, 40);
        bid(market, 1, 15, "1a");
        bothSurpluses("the lesser bid with another's", market, 45);
    }

    /** Every question finds its answer itself, not in what an earlier one left behind. */
    private static void promises31To37EachOnItsOwn() {
        SkeinMarket market = small();
        same("32 first of all", market.surplusBySets(), 90);
        market.raise(0, 110);
        same("31 after a raise", market.surplus(), 100);
        market.raise(0, 120);
        same("32 after a raise", market.surplusBySets(), 110);
        market.raise(0, 130);
        same("33 after a raise", market.surplusWithout(7), 120);
        market.raise(1, 131);
        same("35 after a raise", market.wouldWinBySets(1), true);
        market.raise(0, 132);
        same("34 after a raise", market.wouldWin(0), true);
        market.raise(1, 133);
        same("36 after a raise", market.lotFor(1, 0), 0);
        market.raise(0, 134);
        same("37 after a raise", market.payment(0), 133);
        market.offer(0, 'b', 3);
        same("30 after an offer", market.costOf(1), 3);
        same("35 after a cost", market.wouldWinBySets(1), true);
        same("31 after an offer", market.surplus(), 254);
        same("33 after a surplus", market.surplusWithout(0), 130);
        same("32 after a surplus without", market.surplusBySets(), 254);
    }

    private static void promise33SurplusWithout() {
        SkeinMarket market = small();
        bid(market, 0, 95, "0b");
        same("33 all bids of the bidder are out", market.surplusWithout(0), 60);
        same("33 without a loser", market.surplusWithout(1), 90);
        same("33 without nobody", market.surplusWithout(7), 90);
        fails("33 bidder 8", ARGUMENT, () -> market.surplusWithout(8));
        fails("33 bidder -1", ARGUMENT, () -> market.surplusWithout(-1));
        same("33 nothing changed", market.surplus(), 90);
        SkeinMarket single = new SkeinMarket();
        single.offer(0, 'a', 0);
        bid(single, 3, 9, "0a");
        same("33 the empty set is left", single.surplusWithout(3), 0);
    }

    private static void bothWins(String what, SkeinMarket market, int bid, boolean due) {
        same("34 " + what, market.wouldWin(bid), due);
        same("35 " + what, market.wouldWinBySets(bid), due);
    }

    private static void promises34And35WouldWin() {
        SkeinMarket market = small();
        bothWins("winner", market, 0, true);
        bothWins("loser", market, 1, false);
        bothWins("not possible", market, 2, false);
        bid(market, 4, 9999);
        bothWins("no items", market, 3, false);
        same("34 nothing is sold", market.openLots(), 2);
        market.cancel(3);
        fails("34 cancelled", STATE, () -> market.wouldWin(3));
        fails("35 cancelled", STATE, () -> market.wouldWinBySets(3));
        for (int wrong : new int[] {-1, 4}) {
            fails("34 no bid", NO_SUCH, () -> market.wouldWin(wrong));
            fails("35 no bid", NO_SUCH, () -> market.wouldWinBySets(wrong));
        }
        market.close();
        fails("34 won", STATE, () -> market.wouldWin(0));
        fails("35 lost", STATE, () -> market.wouldWinBySets(1));
    }

    private static void promises34And35Ties() {
        SkeinMarket market = new SkeinMarket();
        market.offer(0, 'a', 10);
        market.offer(0, 'a', 10);
        bid(market, 0, 20, "0a");
        bid(market, 1, 40, "0a", "0a");
        bid(market, 2, 20, "0a");
        bothWins("the bid with the lowest number decides", market, 0, true);
        bothWins("the package has it not", market, 1, false);
        bothWins("its fellow", market, 2, true);
        market.cancel(0);
        bid(market, 3, 20, "0a");
        bothWins("now the package is lowest", market, 1, true);
        bothWins("and beats two", market, 3, false);
        SkeinMarket zero = new SkeinMarket();
        zero.offer(0, 'a', 10);
        zero.offer(0, 'a', 10);
        bid(zero, 0, 10, "0a");
        bothWins("a bid with the surplus 0 beats the empty set", zero, 0, true);
        bid(zero, 1, 30, "0a");
        bothWins("and goes with a better one", zero, 0, true);
        bid(zero, 2, 30, "0a");
        bothWins("but not against a better one", zero, 0, false);
    }

    private static void promise36LotFor() {
        SkeinMarket market = small();
        same("36 lot", market.lotFor(0, 0), 0);
        fails("36 would not win", UNSUPPORTED, () -> market.lotFor(1, 0));
        fails("36 item 1", INDEX, () -> market.lotFor(0, 1));
        fails("36 item -1", INDEX, () -> market.lotFor(1, -1));
        fails("36 no bid", NO_SUCH, () -> market.lotFor(3, 5));
        fails("36 bid -1", NO_SUCH, () -> market.lotFor(-1, 0));
        market.cancel(1);
        fails("36 cancelled", STATE, () -> market.lotFor(1, 0));
        fails("36 index before state", INDEX, () -> market.lotFor(1, 1));
        same("36 nothing is sold", market.openLots(), 2);
        market.close();
        fails("36 won", STATE, () -> market.lotFor(0, 0));
    }

    private static void promise36LotForTies() {
        SkeinMarket market = new SkeinMarket();
        market.offer(1, 'a', 1);
        market.withdraw(0);
        market.offer(0, 'c', 5);
        market.offer(0, 'a', 5);
        market.offer(0, 'a', 5);
        market.offer(0, 'b', 4);
        bid(market, 0, 100, "0d", "0a");
        bid(market, 1, 100, "0b");
        same("36 the first item takes the lower number", market.lotFor(0, 0), 1);
        same("36 then the second item", market.lotFor(0, 1), 2);
        same("36 the cheapest must be sold", market.lotFor(1, 0), 4);
        market.withdraw(1);
        same("36 the only lots of the others are left alone", market.lotFor(0, 0), 2);
        same("36 second item then", market.lotFor(0, 1), 3);
        same("36 other bid then", market.lotFor(1, 0), 4);
    }

    private static void promise37Payment() {
        SkeinMarket market = small();
        same("37 price of the loser", market.payment(0), 70);
        fails("37 would not win", UNSUPPORTED, () -> market.payment(1));
        fails("37 no bid", NO_SUCH, () -> market.payment(3));
        fails("37 bid -1", NO_SUCH, () -> market.payment(-1));
        bid(market, 0, 95, "0b");
        same("37 other bids of the bidder do not count", market.payment(0), 70);
        market.cancel(1);
        fails("37 cancelled", STATE, () -> market.payment(1));
        same("37 without rivals the reserve", market.payment(0), 10);
        same("37 nothing is paid yet", market.takings(), 0L);
        SkeinMarket packages = new SkeinMarket();
        packages.offer(0, 'a', 0);
        packages.offer(0, 'a', 0);
        bid(packages, 0, 100, "0a", "0a");
        bid(packages, 1, 80, "0a");
        bid(packages, 2, 70, "0a");
        same("37 what the package lacks", packages.payment(1), 30);
        same("37 what the package lacks, second", packages.payment(2), 20);
    }

    private static void promise38Takings() {
        SkeinMarket market = small();
        same("38 none yet", market.takings(), 0L);
        market.close();
        same("38 one payment", market.takings(), 70L);
        bid(market, 0, 50, "0c");
        market.close();
        same("38 two closings", market.takings(), 90L);
        bid(market, 0, 50, "0c");
        market.close();
        same("38 nothing sold", market.takings(), 90L);
    }

    private static void promise39SoldShare() {
        SkeinMarket market = new SkeinMarket();
        fails("39 no lots", ARITHMETIC, market::soldShare);
        market.offer(0, 'a', 0);
        market.offer(0, 'a', 0);
        market.offer(0, 'b', 0);
        same("39 none", market.soldShare(), 0f);
        bid(market, 0, 5, "0a");
        market.close();
        same("39 a third as float", market.soldShare(), 1f / 3f);
        market.withdraw(1);
        same("39 withdrawn ones count", market.soldShare(), 1f / 3f);
        bid(market, 0, 5, "0b");
        market.close();
        same("39 two thirds", market.soldShare(), 2f / 3f);
    }

    private static void promise40MeanPaid() {
        SkeinMarket market = new SkeinMarket();
        fails("40 new object", ARITHMETIC, market::meanPaid);
        bid(market, 0, 5, "0a");
        market.close();
        fails("40 losers only", ARITHMETIC, market::meanPaid);
        for (int reserve : new int[] {10, 11, 11}) {
            market.offer(0, 'a', reserve);
        }
        bid(market, 0, 100, "0a", "0a");
        market.close();
        same("40 per bid, not per lot", market.meanPaid(), 21.0);
        bid(market, 0, 100, "0a");
        market.close();
        same("40 two bids", market.meanPaid(), 16.0);
        market.offer(0, 'a', 0);
        bid(market, 0, 100, "0a");
        market.close();
        same("40 a third as double", market.meanPaid(), 32.0 / 3.0);
    }

    private static void rulesCountAsTheyAre() {
        SkeinMarket market = new SkeinMarket();
        market.offer(1, 'a', 10);
        bid(market, 0, 100, "0c");
        market.allow(0, 1, 2);
        same("a rule lets a bid win", market.wouldWin(0), true);
        market.forbid();
        same("not when it is gone", market.wouldWin(0), false);
        market.allow(0, 1, 3);
        same("10 closes by the rules there are", market.close(), 0);
        same("26 by the rules there are", market.reason(0), 'l');
        market.allow(0, 1, 2);
        bid(market, 0, 100, "0c");
        same("10 sells by a rule", market.close(), 1);
        market.forbid();
        same("28 the lot stays after the rule is gone", market.lotOf(1, 0), 0);
        same("22 the rule is gone", market.fits(0, 1, 0), false);
    }
}
