import java.lang.reflect.Method;

/**
 * A market or a model that is called by texts: "offer 0 a 10; 2 x offer 0 b 0; bid 3 100 0c 1d".
 * What stands behind a bid's price are its items. A sign that cannot be typed stands as its number, "#65535".
 */
final class Stage {
    private final Object on;
    private int calls;
    private String broken = "";

    private Stage(Object on, String script) {
        this.on = on;
        play(script);
    }

    static Stage ofMarket(String script) {
        return new Stage(new SkeinMarket(), script);
    }

    static Stage ofModel(String script) {
        return new Stage(new Model(), script);
    }

    /** A broken scene has one of everything, so that something is asked of it and told of. */
    int count(String question) {
        return call(question) instanceof Integer answer ? answer : 1;
    }

    /** Sets the scene; a call that is refused here breaks it, and then nothing is as it should be. */
    private void play(String script) {
        for (String step : script.split(";")) {
            String line = step.trim();
            if (line.isEmpty()) {
                continue;
            }
            String[] words = line.split(" ", 3);
            boolean repeated = words.length == 3 && words[1].equals("x");
            for (int left = repeated ? Integer.parseInt(words[0]) : 1; left > 0; left--) {
                Object answer = call(repeated ? words[2] : line);
                if (answer instanceof String) {
                    broken = "scene broken at " + line + " = " + answer;
                }
            }
        }
    }

    /** Answers what the call answers, or a text of what it throws. */
    Object call(String line) {
        if (!broken.isEmpty()) {
            return broken;
        }
        String[] words = line.split(" ");
        Method method = Twin.named(words[0]);
        Class<?>[] types = method.getParameterTypes();
        Object answer = callOnce(words[0], values(types, words));
        for (int i = types.length + 1; i < words.length; i++) {
            Object count = callOnce("ask", new Object[] {answer, words[i].charAt(0) - '0', words[i].charAt(1)});
            if (count instanceof String) {
                return count;
            }
        }
        return answer;
    }

    private Object callOnce(String method, Object[] values) {
        if (calls >= Twin.CALLS) {
            throw new IllegalStateException("the document promises nothing after call " + Twin.CALLS);
        }
        calls++;
        return Twin.outcome(on, method, values);
    }

    private static Object[] values(Class<?>[] types, String[] words) {
        Object[] values = new Object[types.length];
        for (int i = 0; i < types.length; i++) {
            String word = words[i + 1];
            if (types[i] == int.class) {
                values[i] = Integer.parseInt(word);
            } else {
                values[i] = word.startsWith("#") ? (char) Integer.parseInt(word.substring(1)) : word.charAt(0);
            }
        }
        return values;
    }
}
