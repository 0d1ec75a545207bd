import java.io.IOException;
import java.lang.reflect.Member;
import java.lang.reflect.Modifier;
import java.nio.file.Files;
import java.nio.file.Path;
import java.util.ArrayList;
import java.util.Arrays;
import java.util.HashSet;
import java.util.List;
import java.util.Set;
import java.util.TreeSet;
import java.util.regex.Matcher;
import java.util.regex.Pattern;

/** The face of the class, and those rules of LANGUAGE.md that can be seen from its text. */
public final class LanguageTest {
    private static final Check CHECK = new Check();
    private static final String[] FACE = {
        "int worth(int,int,int)", "int need(int,int)", "int coming(int)", "int joining(int)", "int join(int)",
        "int run(int)", "int person(int,int)", "int of(int,int)", "int empty()", "int write(long,int)",
        "int erase()", "int fault()", "int rules()", "int rule(int)", "int way(int,int)", "int would(int,int)",
        "int gain(int,int)", "int best(int,int)", "int rest(int,int)", "int lot(int,int,int,int,int)",
        "int holder(int,int)", "int swaps(int)", "int rings()", "int chain(int,int)",
        "long mean(int,int,int,int)", "int count(int)"};

    public static void main(String[] args) throws IOException {
        face();
        names();
        String source = Files.readString(Path.of(System.getProperty("class.source")));
        words(withoutTexts(source));
        methods(source);
        CHECK.end();
    }

    private static void face() {
        Class<?> face = ThreeOffers.class;
        CHECK.holds("final", Modifier.isFinal(face.getModifiers()));
        CHECK.holds("public", Modifier.isPublic(face.getModifiers()));
        Set<String> found = new TreeSet<>();
        for (var method : face.getDeclaredMethods()) {
            if (!isOpen(method)) continue;
            String takes = Arrays.toString(method.getParameterTypes()).replaceAll("[\\[\\] ]", "");
            found.add(method.getReturnType() + " " + method.getName() + "(" + takes + ")");
        }
        CHECK.holds("methods of the face: " + found, found.equals(new TreeSet<>(List.of(FACE))));
        Set<String> constants = new TreeSet<>();
        for (var field : face.getDeclaredFields()) if (isOpen(field)) constants.add(field.getName());
        CHECK.holds("constants: " + constants,
            constants.equals(new TreeSet<>(List.of("NONE", "UNKNOWN", "OUTSIDE", "NOT", "FULL"))));
        CHECK.due("constructors", face.getDeclaredConstructors().length, 1);
        CHECK.holds("constructor", isOpen(face.getDeclaredConstructors()[0]));
    }

    private static boolean isOpen(Member member) {
        return !Modifier.isPrivate(member.getModifiers()) && !member.isSynthetic();
    }

    private static void names() {
        Set<String> open = new HashSet<>();
        for (var method : ThreeOffers.class.getDeclaredMethods()) if (isOpen(method)) open.add(method.getName());
        Class<?>[] inside = ThreeOffers.class.getDeclaredClasses();
        CHECK.holds("some twelve classes", inside.length + 1 <= 12);
        for (Class<?> one : inside) {
            CHECK.holds(one + " is static", Modifier.isStatic(one.getModifiers()));
            int fields = 0;
            for (var field : one.getDeclaredFields()) if (!Modifier.isStatic(field.getModifiers())) fields++;
            CHECK.holds(one + " has few fields", fields <= 20);
            for (var method : one.getDeclaredMethods()) {
                CHECK.holds(method + " has a name of its own", !open.contains(method.getName()));
                CHECK.holds(method + " takes seven at most", method.getParameterCount() <= 7);
            }
        }
    }

    private static String withoutTexts(String source) {
        return source.replaceAll("(?s)/\\*.*?\\*/", "").replaceAll("//[^\n]*", "").replaceAll("\"[^\"]*\"", "\"\"");
    }

    private static void words(String code) {
        String[] ruledOut = {"throw", "throws", "try", "catch", "synchronized", "assert", "import static", "protected",
            "transient", "volatile", "native", "Exact", "System.out", "Thread", "Random", "Object", "hashCode", "var"};
        for (String word : ruledOut) {
            CHECK.holds("without " + word, !Pattern.compile("\\b" + Pattern.quote(word) + "\\b").matcher(code).find());
        }
        CHECK.holds("without lambda", !code.contains("->"));
        CHECK.holds("without method reference", !code.contains("::"));
        CHECK.holds("without package", !Pattern.compile("(?m)^package").matcher(code).find());
        List<String> imports = new ArrayList<>();
        Matcher each = Pattern.compile("(?m)^import (.*);").matcher(code);
        while (each.find()) imports.add(each.group(1));
        CHECK.holds("imports " + imports, imports.equals(List.of("java.util.Arrays")));
        Matcher calls = Pattern.compile("\\b(Arrays|System|Math|Integer|Long|String)\\.(\\w+)").matcher(code);
        Set<String> known = Set.of("fill", "arraycopy", "min", "max", "numberOfTrailingZeros");
        while (calls.find()) CHECK.holds("library " + calls.group(), known.contains(calls.group(2)));
        CHECK.holds("plain signs", code.chars().allMatch(sign -> sign < 128));
    }

    private static void methods(String source) {
        String[] lines = source.split("\n");
        int begun = -1;
        String close = "";
        for (int i = 0; i < lines.length; i++) {
            Matcher head = Pattern.compile("^( {4,8})(?!.*\\bclass\\b)\\w[^=;]*\\) \\{$").matcher(lines[i]);
            if (begun < 0 && head.find()) {
                begun = i;
                close = head.group(1) + "}";
            } else if (begun >= 0 && lines[i].equals(close)) {
                CHECK.holds("short: " + lines[begun].trim(), i - begun < 60);
                begun = -1;
            }
        }
    }
}
