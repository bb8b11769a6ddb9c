import java.io.IOException;
import java.lang.reflect.Method;
import java.lang.reflect.Modifier;
import java.nio.file.Files;
import java.nio.file.Path;
import java.util.ArrayList;
import java.util.Arrays;
import java.util.List;
import java.util.regex.Matcher;
import java.util.regex.Pattern;

/** What README.md tells of the class: each answer of its example, each call, each test by name. */
public final class ReadmeTest {
    private static final Check check = new Check();
    private static final Pattern TEXT = Pattern.compile("String text = \"([^\"]*)\";");
    private static final Pattern ROW = Pattern.compile("x\\.(\\w+)\\(([-\\d, ]*)\\); *// (-?\\d+):.*");

    public static void main(String[] args) throws Exception {
        List<String> page = Files.readAllLines(Path.of("README.md"));
        answersAsTold(page);
        namesEachCall(String.join("\n", page));
        namesEachTest(String.join("\n", page));
        check.end();
    }

    private static void answersAsTold(List<String> page) throws Exception {
        BellowsWords x = new BellowsWords();
        int rows = 0;
        int calls = 0;
        for (String line : page) {
            Matcher text = TEXT.matcher(line);
            if (text.matches()) text.group(1).chars().forEach(x::feed);
            if (line.startsWith("x.")) calls++;
            Matcher row = ROW.matcher(line);
            if (!row.matches()) continue;
            rows++;
            check.due("README.md: " + line, answer(x, row.group(1), row.group(2)), Long.parseLong(row.group(3)));
        }
        check.due("README.md: rows that tell their answer", rows, calls);
        check.due("README.md: has an example", rows > 0 ? 1 : 0, 1);
    }

    private static int answer(BellowsWords x, String name, String numbers) throws Exception {
        List<Object> args = new ArrayList<>();
        for (String number : numbers.split(",")) {
            if (!number.isBlank()) args.add(Integer.valueOf(number.trim()));
        }
        Class<?>[] types = new Class<?>[args.size()];
        Arrays.fill(types, int.class);
        return (Integer) BellowsWords.class.getMethod(name, types).invoke(x, args.toArray());
    }

    private static void namesEachCall(String page) {
        for (Method call : BellowsWords.class.getDeclaredMethods()) {
            if (!Modifier.isPublic(call.getModifiers())) continue;
            check.due("README.md names " + call.getName(), page.contains("`" + call.getName() + "`") ? 1 : 0, 1);
        }
    }

    private static void namesEachTest(String page) throws IOException {
        try (var files = Files.list(Path.of("src/test/java"))) {
            files.map(file -> file.getFileName().toString()).filter(name -> name.endsWith("Test.java")).forEach(name -> {
                String test = name.replace(".java", "");
                check.due("README.md names " + test, page.contains("`" + test + "`") ? 1 : 0, 1);
            });
        }
    }
}
