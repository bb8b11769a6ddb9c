import java.io.IOException;
import java.nio.file.Files;
import java.nio.file.Path;
import java.util.HashSet;
import java.util.List;
import java.util.Set;
import java.util.regex.Matcher;
import java.util.regex.Pattern;

/** Those rules of LANGUAGE.md that can be seen in the text of the class without compiling it. */
public final class LanguageTest {
    private static final List<String> BANNED = List.of(
        "\\bpackage\\b", "\\bimport\\b", "\\bthrows?\\b", "\\btry\\b", "\\bcatch\\b", "\\bsynchronized\\b",
        "\\bassert\\b", "->", "::", "\\w+Exact\\b", "\\bprotected\\b", "\\bwhile *\\(true\\)", "for *\\(; *;",
        "\\bhashCode\\b", "\\btoString\\b", "\\bSystem\\.(?!arraycopy)", "\\bThread\\b", "\\bRandom\\b",
        "\\bvar\\b", "\\bstatic *\\{", "\\[\\] *\\[\\]", "\" *\\+", "\\+ *\"");
    private static final Pattern METHOD = Pattern.compile(
        "^( {4}| {8})((?:public |private |static |final )*)(?:[\\w\\[\\]]+ )?(\\w+)\\(([^)]*)\\) \\{$");
    private static final Pattern LIBRARY_CALL = Pattern.compile("\\b([A-Z]\\w*\\.\\w+)\\(");
    private static int wrong = 0;

    public static void main(String[] args) throws IOException {
        List<String> lines = Files.readAllLines(Path.of("src/main/java/BellowsWords.java"));
        bansWords(lines);
        keepsMethodsSmall(lines);
        keepsClassesSmall(lines);
        keepsToTheLibrary(lines);
        System.out.println(wrong + " breaches of the language");
        if (wrong != 0) System.exit(1);
    }

    private static void breach(int line, String what) {
        wrong++;
        System.out.println("line " + (line + 1) + ": " + what);
    }

    private static void bansWords(List<String> lines) {
        for (int i = 0; i < lines.size(); i++) {
            String code = lines.get(i).replaceAll("^ *(/\\*\\*|\\*|//).*", "").replaceAll("//.*", "");
            for (String word : BANNED) {
                if (Pattern.compile(word).matcher(code).find()) breach(i, word + " in " + code.trim());
            }
            if (!lines.get(i).chars().allMatch(c -> c < 128)) breach(i, "a sign above 127");
        }
    }

    /** Some twelve classes, some twenty fields in each; no static field that is not final. */
    private static void keepsClassesSmall(List<String> lines) {
        int classes = 0;
        int fields = 0;
        for (int i = 0; i < lines.size(); i++) {
            String line = lines.get(i);
            if (line.matches(".*\\bclass \\w+ \\{")) {
                classes++;
                fields = 0;
                if (classes > 1 && !line.startsWith("    private static final class ")) breach(i, "a class that is open");
            }
            boolean isField = line.matches("( {4}| {8})(?!return )[\\w\\[\\] ]+ \\w+(, \\w+)*( = .*)?;");
            boolean isConstant = line.contains("static final ");
            if (isField && !isConstant && isMember(lines, i)) fields++;
            if (fields > 20) breach(i, "a class of more than twenty fields");
            if (line.contains("static ") && line.endsWith(";") && !isConstant) breach(i, "static state");
        }
        if (classes < 2 || classes > 12) breach(0, classes + " classes");
    }

    /** Whether a line stands in a class itself, not in a method: four more than the class. */
    private static boolean isMember(List<String> lines, int i) {
        for (int back = i; back >= 0; back--) {
            String line = lines.get(back);
            if (line.matches(".*\\bclass \\w+ \\{")) return indent(lines.get(i)) == indent(line) + 4;
        }
        return false;
    }

    private static int indent(String line) {
        return line.length() - line.stripLeading().length();
    }

    private static void keepsToTheLibrary(List<String> lines) {
        Set<String> allowed = Set.of("Math.min", "Math.max", "Integer.bitCount", "System.arraycopy", "Rows.start");
        for (int i = 0; i < lines.size(); i++) {
            String code = lines.get(i).replaceAll("^ *(/\\*\\*|\\*|//).*", "");
            Matcher call = LIBRARY_CALL.matcher(code);
            while (call.find()) {
                if (!allowed.contains(call.group(1))) breach(i, call.group(1) + " is not listed");
            }
        }
    }

    private static void keepsMethodsSmall(List<String> lines) {
        Set<String> face = new HashSet<>();
        Set<String> others = new HashSet<>();
        int methods = 0;
        for (int i = 0; i < lines.size(); i++) {
            Matcher method = METHOD.matcher(lines.get(i));
            if (!method.matches()) continue;
            methods++;
            String indent = method.group(1);
            boolean isPublic = method.group(2).contains("public ");
            (isPublic ? face : others).add(method.group(3));
            if (indent.length() == 4 && !isPublic && !method.group(2).contains("private ")) {
                breach(i, "a member that is neither public nor private");
            }
            if (method.group(4).split(",").length > 7) breach(i, "more than seven parameters");
            int end = i + 1;
            while (end < lines.size() && !lines.get(end).equals(indent + "}")) end++;
            if (end - i > 60) breach(i, "a method of more than sixty lines");
        }
        others.retainAll(face);
        if (!others.isEmpty()) breach(0, "names of public methods for others: " + others);
        if (face.size() != 35 || methods < 80) breach(0, face.size() + " public, " + methods + " methods in all");
    }
}
