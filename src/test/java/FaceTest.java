import java.io.IOException;
import java.lang.reflect.Constructor;
import java.lang.reflect.Field;
import java.lang.reflect.Member;
import java.lang.reflect.Method;
import java.lang.reflect.Modifier;
import java.lang.reflect.Parameter;
import java.nio.file.Files;
import java.nio.file.Path;
import java.util.ArrayList;
import java.util.Arrays;
import java.util.List;
import java.util.Map;
import java.util.TreeMap;
import java.util.TreeSet;
import java.util.regex.Matcher;
import java.util.regex.Pattern;

/** 'The public face', and the head of each promise, held to the class as it is compiled. */
public final class FaceTest {
    private static final Pattern CALL = Pattern.compile("(?:public )?int (\\w+)\\(([^)]*)\\)");
    private static final Pattern GROUP = Pattern.compile("Ahead of the calls (.*) the interface says: (.*)");
    private static int wrong = 0;

    public static void main(String[] args) throws IOException {
        List<String> document = Files.readAllLines(Path.of("../shared/DOC.md"));
        List<String> face = faceOf(document);
        isOneFinalClass();
        hasTheConstants(face);
        hasTheConstructor();
        hasTheCalls(callsIn(face));
        promisesTheSame(document, callsIn(face));
        hidesAllElse();
        saysTheGroups(document, Files.readString(Path.of("src/main/java/BellowsWords.java")));
        System.out.println(face.size() + " lines of the face, " + wrong + " not as due");
        if (wrong != 0) System.exit(1);
    }

    private static void due(boolean isSo, String what) {
        if (isSo) return;
        wrong++;
        System.out.println(what);
    }

    private static List<String> faceOf(List<String> document) {
        int from = document.indexOf("## The public face");
        int open = from + document.subList(from, document.size()).indexOf("```java");
        int close = open + document.subList(open, document.size()).indexOf("```");
        return document.subList(open + 1, close);
    }

    /** By name, the numbers that a call takes, in their order. */
    private static Map<String, String> callsIn(List<String> lines) {
        Map<String, String> calls = new TreeMap<>();
        for (String line : lines) {
            Matcher call = CALL.matcher(line);
            if (call.find()) due(calls.put(call.group(1), call.group(2)) == null, "told twice: " + line);
        }
        return calls;
    }

    private static void isOneFinalClass() {
        int kind = BellowsWords.class.getModifiers();
        due(Modifier.isPublic(kind) && Modifier.isFinal(kind), "the class is public and final");
        due(BellowsWords.class.getPackageName().isEmpty(), "the class has no package");
        due(BellowsWords.class.getSuperclass() == Object.class, "the class is nothing but itself");
        due(BellowsWords.class.getInterfaces().length == 0, "the class implements nothing");
    }

    private static void hasTheConstants(List<String> face) {
        Map<String, Integer> told = new TreeMap<>();
        Map<String, Integer> has = new TreeMap<>();
        for (String line : face) {
            if (!line.contains("static final int")) continue;
            Matcher constant = Pattern.compile("(\\w+) = (-?\\d+)").matcher(line);
            while (constant.find()) told.put(constant.group(1), Integer.valueOf(constant.group(2)));
        }
        for (Field field : BellowsWords.class.getDeclaredFields()) {
            if (Modifier.isPrivate(field.getModifiers())) continue;
            has.put(field.getName(), valueOf(field));
        }
        due(told.size() == 4 && told.equals(has), "constants: " + has + ", due are " + told);
    }

    /** What is no public constant of int has no place in the face. */
    private static Integer valueOf(Field field) {
        int constant = Modifier.PUBLIC | Modifier.STATIC | Modifier.FINAL;
        try {
            return field.getModifiers() == constant && field.getType() == int.class ? field.getInt(null) : null;
        } catch (IllegalAccessException hidden) {
            return null;
        }
    }

    private static void hasTheConstructor() {
        Constructor<?>[] all = BellowsWords.class.getDeclaredConstructors();
        due(all.length == 1 && all[0].getModifiers() == Modifier.PUBLIC, "one constructor, that is public");
        due(all[0].getParameterCount() == 0 && all[0].getExceptionTypes().length == 0, "it takes and throws nothing");
    }

    private static void hasTheCalls(Map<String, String> told) {
        Map<String, Integer> has = new TreeMap<>();
        Map<String, Integer> due = new TreeMap<>();
        told.forEach((name, numbers) -> due.put(name, numbers.isEmpty() ? 0 : numbers.split(",").length));
        for (Method method : BellowsWords.class.getDeclaredMethods()) {
            if (Modifier.isPrivate(method.getModifiers())) continue;
            due(has.put(method.getName(), method.getParameterCount()) == null, method + " has a name twice");
            due(isACall(method), method + " is no call of the face");
        }
        due(told.size() == 34 && due.equals(has), "calls: " + has + ", due are " + due);
    }

    private static boolean isACall(Method method) {
        boolean isOfInts = Arrays.stream(method.getParameters()).map(Parameter::getType).allMatch(t -> t == int.class);
        return method.getModifiers() == Modifier.PUBLIC && method.getReturnType() == int.class && isOfInts
            && method.getExceptionTypes().length == 0;
    }

    /** Each promise from the second on is headed by its call, as the face tells it. */
    private static void promisesTheSame(List<String> document, Map<String, String> face) {
        List<String> heads = new ArrayList<>();
        List<String> names = new ArrayList<>();
        for (int i = 0; i + 2 < document.size(); i++) {
            Matcher heading = Pattern.compile("## Promise \\d+: (.*)").matcher(document.get(i));
            if (!heading.matches()) continue;
            names.add(heading.group(1));
            heads.add(document.get(i + 2));
        }
        due(names.size() == 35 && names.get(0).equals("A new object"), "35 promises, of a new object first");
        for (int i = 1; i < names.size(); i++) {
            Matcher call = CALL.matcher(heads.get(i));
            boolean isSame = call.find() && call.group(1).equals(names.get(i)) && call.group(2).equals(face.get(names.get(i)));
            due(isSame, "promise " + (i + 1) + " is headed otherwise: " + heads.get(i));
        }
    }

    private static void hidesAllElse() {
        TreeSet<String> calls = new TreeSet<>();
        List<Member> hidden = new ArrayList<>();
        for (Method method : BellowsWords.class.getDeclaredMethods()) {
            if (Modifier.isPrivate(method.getModifiers())) hidden.add(method);
            else calls.add(method.getName());
        }
        for (Class<?> inside : BellowsWords.class.getDeclaredClasses()) {
            int kind = inside.getModifiers();
            due(Modifier.isStatic(kind) && !Modifier.isPublic(kind) && !Modifier.isProtected(kind), inside + " is open");
            hidden.addAll(Arrays.asList(inside.getDeclaredMethods()));
            isWithoutState(inside);
        }
        isWithoutState(BellowsWords.class);
        for (Member member : hidden) due(!calls.contains(member.getName()), member + " bears the name of a call");
    }

    private static void isWithoutState(Class<?> of) {
        for (Field field : of.getDeclaredFields()) {
            int kind = field.getModifiers();
            due(!Modifier.isStatic(kind) || Modifier.isFinal(kind), field + " is static, and not final");
        }
    }

    /** Ahead of each group of calls stands what the interface says there, and they follow in order. */
    private static void saysTheGroups(List<String> document, String source) {
        int groups = 0;
        int at = 0;
        for (String line : document) {
            Matcher group = GROUP.matcher(line);
            if (!group.matches()) continue;
            groups++;
            at = behind(source, "// " + group.group(2), at);
            Matcher name = Pattern.compile("`(\\w+)`").matcher(group.group(1));
            while (name.find()) at = behind(source, "public int " + name.group(1) + "(", at);
        }
        due(groups == 4, groups + " groups of calls");
    }

    private static int behind(String source, String text, int from) {
        int at = source.indexOf(text, from);
        due(at >= 0, text + " does not stand in its order");
        return at < 0 ? from : at + text.length();
    }
}
