/** A place of the document and sentences that stand there; its checks are told with both. */
final class Claim {
    private final Check check;
    private final String words;
    private final Class<? extends RuntimeException> thrown;
    private int checks;

    Claim(Check check, String words, Class<? extends RuntimeException> thrown) {
        this.check = check;
        this.words = words;
        this.thrown = thrown;
    }

    Scene after(String past) {
        return new Scene(this, past);
    }

    Scene afterNothing() {
        return after("");
    }

    void same(String what, Object got, Object due) {
        checks++;
        check.same(words + ": " + what, got, due);
    }

    boolean isChecked() {
        return checks > 0;
    }

    /** The exception that the sentence names. */
    Class<? extends RuntimeException> thrown() {
        if (thrown == null) {
            throw new IllegalStateException(words + " names no exception");
        }
        return thrown;
    }
}
