/** Counts wrong answers and tells of them; every test of the project uses it. */
final class Check {
    private int checks;
    private int wrong;

    interface Call {
        Object answer();
    }

    void same(String what, Object got, Object due) {
        checks++;
        if (!due.equals(got)) {
            wrong++;
            System.out.println(what + " answered " + got + ", due is " + due);
        }
    }

    void answers(String what, Object due, Call call) {
        same(what, outcome(call), due);
    }

    void fails(String what, Class<? extends RuntimeException> due, Call call) {
        same(what, outcome(call), "throws." + due.getSimpleName());
    }

    static Object outcome(Call call) {
        try {
            return call.answer();
        } catch (RuntimeException thrown) {
            return "throws." + thrown.getClass().getSimpleName();
        }
    }

    void end() {
        System.out.println(checks + " checks, " + wrong + " wrong");
        if (wrong > 0 || checks == 0) {
            System.exit(1);
        }
    }
}
