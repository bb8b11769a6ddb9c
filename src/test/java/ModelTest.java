import java.lang.reflect.InvocationTargetException;
import java.lang.reflect.Method;
import java.lang.reflect.Modifier;
import java.util.ArrayList;
import java.util.Arrays;
import java.util.Comparator;
import java.util.List;
import java.util.Random;

/** Runs of calls by chance (always the same ones), each answer held to the model's. */
public final class ModelTest {
    private static final int RUNS = 1500, CALLS = 512, WRONG_SHOWN = 5;

    private final Random random;
    private final BellowsWords x = new BellowsWords();
    private final Model model = new Model();
    private final List<String> made = new ArrayList<>();

    private ModelTest(int seed) {
        random = new Random(seed);
    }

    public static void main(String[] args) throws Exception {
        List<Method> calls = new ArrayList<>();
        for (Method call : BellowsWords.class.getDeclaredMethods()) {
            if (Modifier.isPublic(call.getModifiers())) calls.add(call);
        }
        calls.sort(Comparator.comparing(Method::getName));
        int wrong = 0;
        for (int seed = 0; seed < RUNS && wrong < WRONG_SHOWN; seed++) {
            if (!new ModelTest(seed).agrees(calls)) wrong++;
        }
        System.out.println(calls.size() + " kinds of calls, " + RUNS + " runs, " + wrong + " wrong");
        if (wrong != 0 || calls.size() != 34) System.exit(1);
    }

    private boolean agrees(List<Method> calls) throws Exception {
        boolean isWild = random.nextInt(8) == 0;
        while (made.size() < CALLS) {
            if (random.nextInt(made.size() < 20 ? 4 : 60) == 0) {
                if (!readSome()) return false;
                continue;
            }
            if (random.nextInt(25) == 0) {
                if (!tellARow()) return false;
                continue;
            }
            Method call = calls.get(random.nextInt(calls.size()));
            Object[] args = new Object[call.getParameterCount()];
            for (int i = 0; i < args.length; i++) args[i] = number(isWild, call.getName(), i);
            if (!same(call.getName(), args)) return false;
        }
        return true;
    }

    private int number(boolean isWild, String name, int i) {
        if (random.nextInt(isWild ? 3 : 40) == 0) {
            int[] wild = {Integer.MIN_VALUE, Integer.MAX_VALUE, -1, -2, 7, 8, 9, 40, 41, 60, 61, 100, 1000000};
            return random.nextInt(4) == 0 ? random.nextInt() : wild[random.nextInt(wild.length)];
        }
        if (name.equals("feed")) return "h15,3;f20;lostbx".charAt(random.nextInt(16));
        if (name.equals("drawn") && i == 1) return 1 + random.nextInt(999999);
        if (name.equals("drawn") && i == 0) return random.nextInt(61);
        if (name.equals("days")) return 1 + random.nextInt(random.nextInt(4) == 0 ? 24 : 4);
        if (name.equals("row") && i == 2) return random.nextInt(41);
        if (name.equals("set") && i == 1 || name.equals("copy") && i % 2 == 1) return random.nextInt(20);
        if (name.equals("set") && i == 2) return random.nextInt(80000) - 40000;
        if (name.equals("breath") && i == 1 || name.equals("fire") && i == 1) return random.nextInt(61);
        if (name.equals("lit")) return random.nextInt(61);
        if (name.equals("best") && i == 1 || name.equals("draw") && i == 0) return 1 + random.nextInt(30);
        if (name.equals("rests") && i == 2) return 5 + random.nextInt(16);
        if (name.equals("rests") && i == 3) return random.nextInt(6) - 1;
        if (name.equals("light") && i == 1) return random.nextInt(21);
        if (name.equals("weather")) return random.nextInt(16);
        if (name.equals("chance")) return random.nextInt(new int[] {6, 9, 11, 2}[i]);
        if (name.equals("fits")) return random.nextInt(new int[] {6, 8, 12, 13, 5}[i]);
        if (name.equals("trace") || name.equals("count")) return random.nextInt(10);
        return random.nextInt(new int[] {2, 3, 6}[random.nextInt(3)]);
    }

    private boolean same(String name, Object... args) throws Exception {
        // What an object answers after so many calls is free.
        if (made.size() == CALLS) return true;
        Class<?>[] types = new Class<?>[args.length];
        Arrays.fill(types, int.class);
        String call = name + Arrays.toString(args).replace('[', '(').replace(']', ')');
        made.add(call);
        Object due = Model.class.getDeclaredMethod(name, types).invoke(model, args);
        Object got;
        try {
            got = BellowsWords.class.getDeclaredMethod(name, types).invoke(x, args);
        } catch (InvocationTargetException thrown) {
            got = thrown.getCause();
        }
        if (due.equals(got)) return true;
        System.out.println(made);
        System.out.println("the last answered " + got + ", due is " + due);
        return false;
    }

    private boolean readSome() throws Exception {
        StringBuilder text = new StringBuilder();
        text.append('h').append(random.nextInt(16)).append(',').append(1 + random.nextInt(9)).append(';');
        int hearths = 2 + random.nextInt(random.nextInt(4) == 0 ? 8 : 4);
        for (int h = 0; h < hearths; h++) {
            text.append('f').append(random.nextBoolean() ? 0 : random.nextInt(21)).append(';');
        }
        int pairs = random.nextInt(random.nextInt(4) == 0 ? 9 : 6);
        for (int p = 0; p < pairs; p++) {
            text.append("lostb".charAt(random.nextInt(5))).append(random.nextInt(random.nextBoolean() ? 10 : 41));
            text.append(',').append(random.nextInt(Math.min(hearths, 8)));
            text.append(',').append(random.nextInt(2)).append(';');
        }
        if (random.nextInt(3) == 0) spoil(text);
        for (int i = 0; i < text.length(); i++) {
            if (!same("feed", (int) text.charAt(i))) return false;
        }
        return same("house") && same("fault") && same("count", 9);
    }

    private void spoil(StringBuilder text) {
        char other = "hflostbx0123456789,; \u00ff".charAt(random.nextInt(21));
        int at = random.nextInt(text.length());
        switch (random.nextInt(4)) {
            case 0: text.setCharAt(at, other); break;
            case 1: text.insert(at, other); break;
            case 2: text.deleteCharAt(at); break;
            default: text.setLength(at); break;
        }
    }

    /** A row that may well be what a PAIR keeps; otherwise hardly a fit would ever be found. */
    private boolean tellARow() throws Exception {
        int pair = random.nextInt(4);
        int n = 1 + random.nextInt(12);
        int row = random.nextInt(8);
        if (!same("row", row, random.nextInt(3), n)) return false;
        for (int d = 1; d <= n; d++) {
            int breath = model.breath(pair, d);
            if (!same("set", row, d - 1, breath < 0 ? 0 : breath)) return false;
        }
        for (int what = 0; what < 5; what++) {
            if (!same("fits", pair, row, 0, n, what)) return false;
        }
        return true;
    }
}
