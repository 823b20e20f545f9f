import java.lang.reflect.InvocationTargetException;
import java.lang.reflect.Method;
import java.util.Arrays;
import java.util.Comparator;
import java.util.List;
import java.util.NoSuchElementException;

/** What the tests share: telling a desk a text, and counting the answers that are wrong. */
final class Check {
    /** What a call that throws NoSuchElementException counts as. */
    static final int THROWS = Integer.MIN_VALUE;

    private final String name;
    private String sentence = "";
    private int wrong = 0;
    private int asked = 0;

    Check(String name) {
        this.name = name;
    }

    void due(String call, long got, long want) {
        asked++;
        if (got != want) {
            wrong++;
            System.out.println(name + sentence + ": " + call + " answered " + got + ", due is " + want);
        }
    }

    void due(String call, boolean got, boolean want) {
        due(call, got ? 1 : 0, want ? 1 : 0);
    }

    void due(String call, String got, String want) {
        asked++;
        if (!got.equals(want)) {
            wrong++;
            System.out.println(name + sentence + ": " + call + " is '" + got + "', due is '" + want + "'");
        }
    }

    void due(String call, List<Integer> got, List<Integer> want) {
        asked++;
        if (!got.equals(want)) {
            wrong++;
            System.out.println(name + sentence + ": " + call + " answered " + got + ", due is " + want);
        }
    }

    /**
     * Runs every method of a test that is named by its promise (p, its number, what it says) or rule,
     * so that none is forgotten; what one throws is a wrong answer.
     */
    void runPromises(Object test) {
        Method[] methods = test.getClass().getDeclaredMethods();
        Arrays.sort(methods, Comparator.comparing(Method::getName));
        int run = 0;
        for (Method method : methods) {
            if (method.getName().matches("(p|rule)\\d\\d_.*")) {
                runOne(test, method);
                run++;
            }
        }
        System.out.println(name + ": " + run + " sentences");
        end();
    }

    private void runOne(Object test, Method method) {
        sentence = " " + method.getName();
        int before = asked;
        try {
            method.invoke(test);
        } catch (InvocationTargetException e) {
            wrong++;
            System.out.println(name + sentence + ": threw " + e.getCause());
        } catch (IllegalAccessException e) {
            throw new IllegalStateException(e);
        }
        if (asked == before) {
            wrong++;
            System.out.println(name + sentence + ": asked nothing");
        }
        sentence = "";
    }

    boolean isWrong() {
        return wrong > 0;
    }

    void end() {
        System.out.println(name + ": " + asked + " answers, " + wrong + " wrong");
        if (wrong > 0) {
            System.exit(1);
        }
    }

    static int fieldOf(CadenceDesk desk, int field, int k) {
        try {
            return desk.field(field, k);
        } catch (NoSuchElementException e) {
            return THROWS;
        }
    }

    /** Feeds a text, with bytes of 0 behind it up to a multiple of twenty. */
    static int feed(CadenceDesk desk, String text) {
        int last = 0;
        for (int at = 0; at < text.length(); at += 20) {
            last = desk.feed(word(text, at), word(text, at + 4), word(text, at + 8),
                word(text, at + 12), word(text, at + 16));
        }
        return last;
    }

    private static int word(String text, int at) {
        int word = 0;
        for (int i = at; i < at + 4; i++) {
            word = (word << 8) | (i < text.length() ? text.charAt(i) & 255 : 0);
        }
        return word;
    }

    static int film(CadenceDesk desk, String text) {
        feed(desk, text);
        return desk.film(text.length());
    }

    static int rules(CadenceDesk desk, String text) {
        feed(desk, text);
        return desk.rules(text.length());
    }

    /** What film or rules answer to a fault. */
    static int fault(int place, int kind) {
        return -2 - (8 * place + kind);
    }
}
