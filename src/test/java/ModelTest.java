import java.util.Random;

/** Runs of calls, chosen by fixed seeds, on the program and on the model: both must answer the same. */
public final class ModelTest {
    private static final int RUNS = 1200;

    private final Random random;
    private final boolean ties;
    private final Twin twin;

    private ModelTest(Check check, int seed) {
        twin = new Twin(check, "seed " + seed);
        random = new Random(seed);
        ties = seed % 3 != 0;
    }

    public static void main(String[] args) {
        Check check = new Check();
        for (int seed = 0; seed < RUNS; seed++) {
            new ModelTest(check, seed).run();
        }
        check.end();
    }

    private void run() {
        for (int call = 0; call < Twin.CALLS; call++) {
            String method = pick(call);
            twin.call(method, arguments(method));
        }
    }

    /** Changes come in rounds: offers, bids and their items, questions, and now and then a closing. */
    private String pick(int call) {
        int round = call % 64;
        if (round < 8) {
            return random.nextInt(12) == 0 ? "withdraw" : "offer";
        }
        if (round < 11) {
            return random.nextInt(4) == 0 ? "forbid" : "allow";
        }
        if (round < 34) {
            return new String[] {"bid", "ask", "ask", "raise"}[random.nextInt(40) == 0 ? 3 : random.nextInt(3)];
        }
        if (round == 48) {
            return "close";
        }
        String any = Twin.METHODS[random.nextInt(Twin.METHODS.length)].getName();
        return any.equals("close") && random.nextInt(4) != 0 ? "lotFor" : any;
    }

    private Object[] arguments(String name) {
        switch (name) {
            case "offer":
                return new Object[] {fibre(), grade(), sum(999)};
            case "allow":
                return new Object[] {fibre(), fibre(), odd(0, 4)};
            case "bid":
                return new Object[] {odd(0, 7), sum(ties ? 40 : 2500)};
            case "ask":
                return new Object[] {openBid(), fibre(), grade()};
            case "raise":
                return new Object[] {bid(), sum(9999)};
            case "countOf":
                return new Object[] {fibre(), grade()};
            case "fits":
                return new Object[] {lot(), bid(), odd(0, 2)};
            case "fitting": case "lotOf": case "lotFor":
                return new Object[] {bid(), random.nextInt(3) == 0 ? odd(0, 2) : 0};
            case "withdraw": case "fibreOf": case "gradeOf": case "reserveOf": case "lotState": case "soldTo":
                return new Object[] {lot()};
            case "surplusWithout":
                return new Object[] {odd(0, 7)};
            default:
                return Twin.named(name).getParameterCount() == 0 ? new Object[0] : new Object[] {bid()};
        }
    }

    /** From low to high, and now and then just outside or far away. */
    private int odd(int low, int high) {
        int[] outside = {low - 1, high + 1, Integer.MIN_VALUE, Integer.MAX_VALUE, 256 + low, -high};
        return random.nextInt(60) == 0 ? outside[random.nextInt(outside.length)] : low + random.nextInt(high - low + 1);
    }

    private int fibre() {
        return random.nextInt(3) == 0 ? odd(0, 3) : odd(0, 1);
    }

    private char grade() {
        char[] outside = {'`', 'f', 'A', 0, 255, 'a' + 256, Character.MAX_VALUE};
        return random.nextInt(80) == 0 ? outside[random.nextInt(outside.length)] : (char) ('a' + random.nextInt(5));
    }

    private int sum(int high) {
        return ties && random.nextInt(20) != 0 ? 5 * random.nextInt(high < 100 ? 7 : 3) : odd(0, high);
    }

    private int lot() {
        return odd(0, Math.max(0, twin.model.lots() - 1));
    }

    private int bid() {
        return random.nextInt(3) == 0 ? odd(0, Math.max(0, twin.model.bids() - 1)) : openBid();
    }

    private int openBid() {
        int last = Math.max(0, twin.model.bids() - 1);
        return random.nextInt(4) == 0 ? last : odd(Math.max(0, last - 7), last);
    }
}
