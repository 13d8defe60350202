import java.util.NoSuchElementException;

/** Tests that quote the document: what they share. */
abstract class Sentences {
    static final Class<IllegalArgumentException> ARGUMENT = IllegalArgumentException.class;
    static final Class<IllegalStateException> STATE = IllegalStateException.class;
    static final Class<NoSuchElementException> NO_SUCH = NoSuchElementException.class;
    static final Class<IndexOutOfBoundsException> INDEX = IndexOutOfBoundsException.class;
    static final Class<UnsupportedOperationException> UNSUPPORTED = UnsupportedOperationException.class;
    static final Class<ArithmeticException> ARITHMETIC = ArithmeticException.class;

    static final String NO_LOT = "there is no such lot";
    static final String NO_BID = "there is no such bid";
    static final String NO_ITEM = "the bid has no such item";
    static final String NOT_OPEN = "the bid is not open";

    /**
     * Lots 0 and 1 are sold, 2 (1c) and 3 (0a) open, 4 is withdrawn. Bids 0 and 1 have won, 2 has lost with the
     * reason b, 3 with n, 4 with l, 5 with p, 6 with m; 7 is cancelled, 8 open and would win, 9 open and would not.
     */
    static final String MIXED = "offer 0 a 10; offer 0 b 20; offer 1 c 30; bid 0 100 0b; bid 1 60 0b; bid 1 40 0b; "
            + "bid 2 50; bid 3 70 2a; bid 4 9 0a; bid 5 21 0b; bid 6 30 1c; cancel 7; close; offer 0 a 5; "
            + "offer 3 e 999; withdraw 4; allow 0 1 2; bid 0 200 0c 1d; bid 1 36 1c";
    static final String[] NO_LOTS_OF_MIXED = {"5", "-1", "40", "256", "-2147483648", "2147483647"};
    static final String[] NO_BIDS_OF_MIXED = {"10", "-1", "40", "256", "-2147483648", "2147483647"};

    static final String EIGHT_LOTS = "8 x offer 0 a 0";
    static final String EIGHT_BIDS = "8 x bid 0 0";
    static final String SIX_RULES = "5 x allow 3 2 4; allow 1 2 4";
    /** Eight lots and eight bids are open; each bid would win the lot with its number, two contend for two. */
    static final String EIGHT_WINNERS = "2 x offer 0 a 0; 2 x offer 1 a 0; 2 x offer 2 a 0; 2 x offer 3 a 0; "
            + "bid 0 5 0a; bid 1 5 0a; bid 2 5 1a; bid 3 5 1a; bid 4 5 2a; bid 5 5 2a; bid 6 5 3a; bid 7 5 3a";

    /** Eight lots and eight bids with three items each are open; any two bids go together, 6 and 7 would win. */
    static final String EIGHT_THREES = "2 x offer 0 a 1; 2 x offer 1 a 1; 2 x offer 2 a 1; 2 x offer 3 a 1; "
            + "bid 0 10 0a 1a 2a; bid 1 11 1a 2a 3a; bid 2 12 2a 3a 0a; bid 3 13 3a 0a 1a; bid 4 14 0a 1a 2a; "
            + "bid 5 15 1a 2a 3a; bid 6 16 2a 3a 0a; bid 7 17 3a 0a 1a";

    static final String[] OFF_FIBRES = {"-1", "4", "256", "-2147483648", "2147483647"};
    static final String[] OFF_GRADES = {"#96", "f", "A", "#0", "#255", "#353", "#65535"};
    static final String[] OFF_RESERVES = {"-1", "1000", "-2147483648", "2147483647"};
    static final String[] OFF_STEPS = {"-1", "5", "256", "-2147483648", "2147483647"};
    static final String[] OFF_BIDDERS = {"-1", "8", "256", "-2147483648", "2147483647"};
    static final String[] OFF_PRICES = {"-1", "10000", "-2147483648", "2147483647"};

    private final Book book;

    Sentences(Book book) {
        this.book = book;
    }

    abstract void test();

    final Claim term(String section, String... sentences) {
        return book.claim(section, null, sentences);
    }

    final Claim says(int promise, String... sentences) {
        return book.claim("Promise " + promise, null, sentences);
    }

    final Claim refusal(int promise, Class<? extends RuntimeException> thrown, String when) {
        return book.claim("Promise " + promise, thrown, "Throws `" + thrown.getSimpleName() + "` if " + when);
    }

    /** Lots 0 to count - 1, none open any more. */
    static String withdrawnLots(int count) {
        StringBuilder script = new StringBuilder();
        for (int lot = 0; lot < count; lot++) {
            script.append("offer 0 a 0; withdraw ").append(lot).append("; ");
        }
        return script.toString();
    }

    /** Bids 0 to count - 1, none open any more. */
    static String cancelledBids(int count) {
        StringBuilder script = new StringBuilder();
        for (int bid = 0; bid < count; bid++) {
            script.append("bid 0 0; cancel ").append(bid).append("; ");
        }
        return script.toString();
    }

    /** Rounds in which eight bids get a lot each: eight lots and eight bids a round. */
    static String soldRounds(int rounds) {
        return (EIGHT_WINNERS + "; close; ").repeat(rounds);
    }

    /** The call with each of some words in the place of its sign %. */
    static String[] each(String call, String... words) {
        String[] calls = new String[words.length];
        for (int i = 0; i < words.length; i++) {
            calls[i] = call.replace("%", words[i]);
        }
        return calls;
    }
}
