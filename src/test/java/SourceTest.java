import java.io.IOException;
import java.lang.reflect.Constructor;
import java.lang.reflect.Field;
import java.lang.reflect.Method;
import java.lang.reflect.Modifier;
import java.nio.file.Files;
import java.nio.file.Path;
import java.util.Arrays;
import java.util.List;
import java.util.Set;
import java.util.TreeSet;
import java.util.regex.Matcher;
import java.util.regex.Pattern;
import java.util.stream.Collectors;

/** The document's face, and what of LANGUAGE.md can be seen in the class or in its text. */
public final class SourceTest {
    private static final Path SOURCE = Path.of("src/main/java/ExamHalls.java");
    private static final List<String> FACE = List.of(
            "int candidate(int)", "int feed(long,int)", "int essay(int)", "int legs(int,int)", "long word(int,int,int)",
            "int form(int)", "int measure(int,int,int)", "int parallel(int,int)", "int bar(long)", "int judge(int)",
            "int like(int,int)", "int number(int,int)", "int sees(int,int,int,int)", "int opens(int)", "int fewest()",
            "int reader(int,int)", "int share()", "int again()", "int apart(int)", "int reading(int,int,int)",
            "int mark(int,int,int)", "int load(int)", "int shift(int)", "int score(int,int)", "int quota(int,int)",
            "int rule(int,int)", "int passes(int)", "int passed(int)", "int strike(int,int)", "int ifStruck(int)",
            "int cell(int,int)", "int kin(int,int)", "int near()", "int count(int)");

    public static void main(String[] args) throws IOException {
        face();
        insideClasses();
        text();
        methodLengths();
        Check.end();
    }

    private static String told(Method m) {
        return m.getReturnType() + " " + m.getName()
                + Arrays.stream(m.getParameterTypes()).map(Class::getName).collect(Collectors.joining(",", "(", ")"));
    }

    private static void face() {
        Class<?> halls = ExamHalls.class;
        Check.isTrue("public and final", Modifier.isPublic(halls.getModifiers()) && Modifier.isFinal(halls.getModifiers()));
        Set<String> names = new TreeSet<>();
        Set<String> open = new TreeSet<>();
        for (Method m : halls.getDeclaredMethods()) {
            if (Modifier.isPublic(m.getModifiers())) {
                open.add(told(m));
                names.add(m.getName());
            } else {
                Check.isTrue(m + " is private", Modifier.isPrivate(m.getModifiers()));
            }
        }
        Check.isTrue("the face: " + open, open.equals(new TreeSet<>(FACE)));
        for (Class<?> inside : halls.getDeclaredClasses()) {
            for (Method m : inside.getDeclaredMethods()) {
                Check.isTrue("a name of its own: " + m, !names.contains(m.getName()));
            }
        }
        for (Method m : halls.getDeclaredMethods()) {
            Check.isTrue("a name of its own: " + m, Modifier.isPublic(m.getModifiers()) || !names.contains(m.getName()));
        }
        for (Constructor<?> made : halls.getDeclaredConstructors()) {
            Check.isTrue("a public constructor", Modifier.isPublic(made.getModifiers()) && made.getParameterCount() == 0);
        }
        for (Field f : halls.getDeclaredFields()) {
            boolean constant = Set.of("NONE", "BAD", "STATE", "FULL").contains(f.getName());
            Check.isTrue("public only if of the face: " + f, constant == Modifier.isPublic(f.getModifiers()));
            Check.isTrue("else private: " + f, constant || Modifier.isPrivate(f.getModifiers()));
            Check.isTrue("static only if final: " + f,
                    !Modifier.isStatic(f.getModifiers()) || Modifier.isFinal(f.getModifiers()));
        }
    }

    private static void insideClasses() {
        Class<?>[] inside = ExamHalls.class.getDeclaredClasses();
        Check.isTrue("some twelve classes at most", inside.length <= 11);
        for (Class<?> c : inside) {
            Check.isTrue(c + " is static", Modifier.isStatic(c.getModifiers()));
            Check.isTrue(c + " has some twenty fields at most", c.getDeclaredFields().length <= 20);
            for (Method m : c.getDeclaredMethods()) {
                Check.isTrue("seven parameters at most: " + m, m.getParameterCount() <= 7);
                Check.isTrue("not one of every object's: " + m,
                        !Set.of("equals", "hashCode", "toString").contains(m.getName()));
            }
        }
        long fields = Arrays.stream(ExamHalls.class.getDeclaredFields())
                .filter(f -> !Modifier.isStatic(f.getModifiers())).count();
        Check.isTrue("some twenty fields at most", fields <= 20);
    }

    private static String withoutComments(String source) {
        return source.replaceAll("(?s)/\\*.*?\\*/", "").replaceAll("//[^\n]*", "");
    }

    private static void text() throws IOException {
        String source = Files.readString(SOURCE);
        Check.isTrue("signs 1 to 127", source.chars().allMatch(sign -> sign >= 1 && sign <= 127));
        String code = withoutComments(source);
        for (String word : List.of("throw", "throws", "try", "catch", "finally", "synchronized", "assert", "import",
                "package", "System", "Random", "Thread", "float", "double", "volatile", "native", "Object", "var")) {
            Check.isTrue("no " + word, !Pattern.compile("\\b" + word + "\\b").matcher(code).find());
        }
        for (String sign : List.of("->", "::", "@", "\"")) {
            Check.isTrue("no " + sign, !code.contains(sign));
        }
        Matcher called = Pattern.compile("\\b(Integer|Long|Math|String|StringBuilder|ArrayList|List|Arrays)\\b(\\.\\w+)?")
                .matcher(code);
        while (called.find()) {
            Check.isTrue("of the library only: " + called.group(),
                    Set.of("Integer.bitCount", "Math.abs", "Math.max", "Math.min", "Math.floorDiv").contains(called.group()));
        }
    }

    private static void methodLengths() throws IOException {
        List<String> lines = Files.readAllLines(SOURCE);
        Pattern head = Pattern.compile("( +)(public|private) [^=;]*\\(.*\\{");
        int methods = 0;
        for (int start = 0; start < lines.size(); start++) {
            Matcher m = head.matcher(lines.get(start));
            if (m.matches()) {
                int end = start;
                while (!lines.get(end).equals(m.group(1) + "}")) {
                    end++;
                }
                methods++;
                Check.isTrue("a short method at line " + (start + 1), end - start <= 60);
            }
        }
        Check.isTrue("methods were found", methods > FACE.size());
    }
}
