import java.lang.reflect.InvocationTargetException;
import java.lang.reflect.Method;
import java.util.ArrayList;
import java.util.HashMap;
import java.util.List;
import java.util.Map;

/** One object in use. A call is told as text, "peg(0, 1)", so that it is its own label. */
final class Run {
    /** What an object answers after so many calls is free. */
    private static final int CALLS_MOST = 512;
    private static final Map<String, Method> FACE = new HashMap<>();

    static {
        for (Method method : BellowsWords.class.getDeclaredMethods()) {
            FACE.put(method.getName(), method);
        }
    }

    private final Edges edges;
    private final BellowsWords x = new BellowsWords();
    private int calls = 0;

    Run(Edges edges) {
        this.edges = edges;
    }

    /** What a call answers; numbers may be told as MIN and MAX, too. */
    int answer(String call) {
        if (++calls > CALLS_MOST) throw new IllegalStateException("more calls than an object is used for");
        int open = call.indexOf('(');
        List<Object> numbers = new ArrayList<>();
        for (String number : call.substring(open + 1, call.length() - 1).split(",")) {
            if (!number.isBlank()) numbers.add(number(number.trim()));
        }
        try {
            return (Integer) FACE.get(call.substring(0, open)).invoke(x, numbers.toArray());
        } catch (InvocationTargetException thrown) {
            throw new IllegalStateException(call + " threw", thrown.getCause());
        } catch (IllegalAccessException hidden) {
            throw new IllegalStateException(call + " is not of the face", hidden);
        }
    }

    private static int number(String text) {
        if (text.equals("MIN")) return Integer.MIN_VALUE;
        if (text.equals("MAX")) return Integer.MAX_VALUE;
        return Integer.parseInt(text);
    }

    Run does(String... these) {
        for (String call : these) answer(call);
        return this;
    }

    Run due(String call, int want) {
        edges.due(call, answer(call), want);
        return this;
    }

    private Run dueEach(int want, String... these) {
        for (String call : these) due(call, want);
        return this;
    }

    Run bad(String... these) {
        return dueEach(BellowsWords.BAD, these);
    }

    Run state(String... these) {
        return dueEach(BellowsWords.STATE, these);
    }

    Run full(String... these) {
        return dueEach(BellowsWords.FULL, these);
    }

    Run none(String... these) {
        return dueEach(BellowsWords.NONE, these);
    }

    Run missing(String... these) {
        return dueEach(Check.NULL, these);
    }

    Run noPlace(String... these) {
        return dueEach(Check.PLACE, these);
    }

    Run feeds(String text) {
        for (int i = 0; i < text.length(); i++) answer("feed(" + (int) text.charAt(i) + ")");
        return this;
    }

    Run reads(String text) {
        int hearths = feeds(text).answer("house()");
        edges.due("house() of " + text + " is read", hearths >= 2 ? 1 : hearths, 1);
        return this;
    }

    Run faults(String text, int fault, int place) {
        edges.due("house() of '" + text + "'", feeds(text).answer("house()"), -1000100 - place);
        edges.due("fault() of '" + text + "'", answer("fault()"), fault);
        return this;
    }

    /** There is no call that reads an ITEM: one of 0 to 40 is told by a PAIR of tin (0) that keeps. */
    Run item(int row, int i, int want) {
        return due("fits(0, " + row + ", " + i + ", 1, 4)", want);
    }

    Run items(int row, int... want) {
        for (int i = 0; i < want.length; i++) item(row, i, want[i]);
        return this;
    }
}
