/** Counts wrong answers and tells of them; every test of the project uses it. */
final class Check {
    private int checks;
    private int wrong;

    interface Call {
        Object answer();
    }

    void same(String what, Object got, Object due) {
        checks++;
        if (!due.equals(got)) {
            wrong++;
            System.out.println(what + " answered " + got + ", due is " + due);
        }
    }

    void answers(String what, Object due, Call call) {
        same(what, outcome(call), due);
    }

    void fails(String what, Class<? extends RuntimeException> due, Call call) {
        same(what, outcome(call), "throws." + due.getSimpleName());
    }

    static Object outcome(Call call) {
        try {
            return call.answer();
        } catch (RuntimeException thrown) {
            return told(thrown);
        }
    }

    /** Where the document wants an exception, the code throws it itself, not the machine and not the library. */
    static String told(Throwable thrown) {
        StackTraceElement[] frames = thrown.getStackTrace();
        boolean byLibrary = frames.length > 0 && frames[0].getClassName().indexOf('.') >= 0;
        return "throws." + thrown.getClass().getSimpleName() + (byLibrary ? " out of the library" : "");
    }

    void end() {
        System.out.println(checks + " checks, " + wrong + " wrong");
        if (wrong > 0 || checks == 0) {
            System.exit(1);
        }
    }
}
