/** What has been called before; every call of a test comes to a fresh market with this past. */
final class Scene {
    private final Claim claim;
    private final String past;

    Scene(Claim claim, String past) {
        this.claim = claim;
        this.past = past;
    }

    /** The market answers so, and by the way the model, too: what is due here was not just thought up. */
    Scene answers(String call, Object due) {
        claim.same(what(call), Stage.ofMarket(past).call(call), due);
        claim.same(what(call) + " of the model", Stage.ofModel(past).call(call), due);
        return this;
    }

    /** The market throws what the claim's sentence names, and that changes nothing. */
    Scene refuses(String... calls) {
        for (String call : calls) {
            refuses(claim.thrown(), call);
        }
        return this;
    }

    Scene refuses(Class<? extends RuntimeException> due, String call) {
        answers(call, "throws." + due.getSimpleName());
        claim.same(what(call) + " changes", Untouched.difference(past, call), "nothing");
        return this;
    }

    private String what(String call) {
        return "[" + past + "] " + call;
    }
}
