import java.io.IOException;
import java.lang.reflect.Constructor;
import java.lang.reflect.Field;
import java.lang.reflect.Method;
import java.lang.reflect.Modifier;
import java.nio.charset.StandardCharsets;
import java.nio.file.Files;
import java.nio.file.Path;
import java.util.ArrayList;
import java.util.Arrays;
import java.util.List;
import java.util.Set;
import java.util.TreeSet;
import java.util.regex.Matcher;
import java.util.regex.Pattern;

/** The rules of ../shared/LANGUAGE.md that can be looked at from outside, and the face that the document tells. */
public final class LanguageTest {
    private static final Path SOURCE = Path.of("src/main/java/DeedCourt.java");
    private static final Path DOCUMENT = Path.of("../shared/DOC.md");
    private static final List<String> FORBIDDEN = List.of("throw", "throws", "try", "catch", "finally", "synchronized",
        "assert", "import", "package", "protected", "default ->", "->", "::", "@", "volatile", "transient", "native",
        "yield", "var", "strictfp", "static {", "float", "double");
    private static final Set<String> LIBRARY = Set.of("Integer.bitCount", "Long.bitCount", "Math.max", "Math.min",
        "System.arraycopy");
    private static final Pattern METHOD =
        Pattern.compile("(?m)^( +)(?:(?:public|private|static|final) )*[A-Za-z\\[\\]]+ (\\w+)\\(([^)]*)\\) \\{\n");

    private static int wrong = 0;

    private LanguageTest() {
    }

    public static void main(String[] args) throws IOException {
        String source = Files.readString(SOURCE, StandardCharsets.UTF_8);
        String code = withoutTexts(source);
        words(code);
        library(code);
        methods(code);
        loops(code);
        texts(source);
        face();
        classes();
        System.out.println("LanguageTest: " + wrong + " wrong");
        if (wrong != 0) {
            System.exit(1);
        }
    }

    private static void expect(boolean fine, String what) {
        if (!fine) {
            wrong++;
            System.out.println("rule broken: " + what);
        }
    }

    /** The code without its comments, and with empty texts. */
    private static String withoutTexts(String source) {
        String code = source.replaceAll("(?s)/\\*.*?\\*/", "").replaceAll("//[^\n]*", "");
        return code.replaceAll("\"[^\"\n]*\"", "\"\"").replaceAll("'\\\\?.'", "0");
    }

    private static void words(String code) {
        for (String word : FORBIDDEN) {
            boolean isWord = word.matches("\\w+");
            Matcher m = Pattern.compile(isWord ? "\\b" + word + "\\b" : Pattern.quote(word)).matcher(code);
            expect(!m.find(), word);
        }
    }

    private static void library(String code) {
        Set<String> own = new TreeSet<>();
        Matcher classes = Pattern.compile("class (\\w+)").matcher(code);
        while (classes.find()) {
            own.add(classes.group(1));
        }
        Matcher calls = Pattern.compile("\\b([A-Z][a-z]\\w*)\\.(\\w+)").matcher(code);
        while (calls.find()) {
            expect(own.contains(calls.group(1)) || LIBRARY.contains(calls.group()), "library: " + calls.group());
        }
        Matcher types = Pattern.compile("\\b[A-Z][a-z]\\w*").matcher(code);
        Set<String> known = new TreeSet<>(own);
        known.addAll(List.of("String", "Integer", "Long", "Math", "System"));
        while (types.find()) {
            expect(known.contains(types.group()), "type: " + types.group());
        }
    }

    private static void methods(String code) {
        Matcher m = METHOD.matcher(code);
        int count = 0;
        while (m.find()) {
            count++;
            int lines = code.substring(m.end(), code.indexOf("\n" + m.group(1) + "}\n", m.end())).split("\n").length;
            expect(lines <= 60, m.group(2) + " has " + lines + " lines");
            int parameters = m.group(3).isEmpty() ? 0 : m.group(3).split(",").length;
            expect(parameters <= 7, m.group(2) + " has " + parameters + " parameters");
        }
        expect(count > 100, "only " + count + " methods were seen");
    }

    private static void loops(String code) {
        expect(!Pattern.compile("while \\(true\\)|for \\(;").matcher(code).find(), "a loop without an end");
        // Objects are made by constructors alone, so that no run of calls makes any.
        Matcher m = METHOD.matcher(code);
        while (m.find()) {
            String body = code.substring(m.end(), code.indexOf("\n" + m.group(1) + "}\n", m.end()));
            boolean isConstructor = Character.isUpperCase(m.group(2).charAt(0));
            expect(isConstructor || !body.contains("new "), m.group(2) + " makes an object");
        }
    }

    private static void texts(String source) {
        for (int i = 0; i < source.length(); i++) {
            char c = source.charAt(i);
            expect(c == '\n' || (c >= ' ' && c < 127), "a sign that is " + (int) c);
        }
        for (String line : source.split("\n")) {
            expect(line.length() <= 120, "a line of " + line.length() + " signs: " + line.trim());
        }
    }

    /** The face is the document's, and nothing else of the class can be seen. */
    private static void face() throws IOException {
        String document = Files.readString(DOCUMENT, StandardCharsets.UTF_8);
        Set<String> due = new TreeSet<>();
        Matcher m = Pattern.compile("(?m)^    public (\\w+) (\\w+)\\((.*)\\);$").matcher(document);
        while (m.find()) {
            StringBuilder face = new StringBuilder(m.group(1) + " " + m.group(2));
            for (String parameter : m.group(3).isEmpty() ? new String[0] : m.group(3).split(", ")) {
                face.append(' ').append(parameter.split(" ")[0]);
            }
            due.add(face.toString());
        }
        expect(due.size() == 59, "the document tells of " + due.size() + " methods");
        Set<String> names = new TreeSet<>();
        for (Method method : DeedCourt.class.getDeclaredMethods()) {
            if (Modifier.isPublic(method.getModifiers())) {
                StringBuilder face = new StringBuilder(method.getReturnType() + " " + method.getName());
                for (Class<?> type : method.getParameterTypes()) {
                    face.append(' ').append(type);
                }
                expect(due.remove(face.toString()), "no such method in the face: " + face);
                names.add(method.getName());
            }
        }
        expect(due.isEmpty(), "methods of the face that aren't there: " + due);
        for (Method method : DeedCourt.class.getDeclaredMethods()) {
            boolean isPublic = Modifier.isPublic(method.getModifiers());
            expect(isPublic || Modifier.isPrivate(method.getModifiers()), "seen from outside: " + method);
            expect(isPublic || !names.contains(method.getName()), "private, with a public one's name: " + method);
        }
        for (Class<?> inner : DeedCourt.class.getDeclaredClasses()) {
            for (Method method : inner.getDeclaredMethods()) {
                expect(!names.contains(method.getName()), "inside, with a public one's name: " + method);
            }
        }
        for (Field field : DeedCourt.class.getDeclaredFields()) {
            boolean isConstant = field.getName().equals("NONE");
            expect(isConstant == Modifier.isPublic(field.getModifiers()), "a field: " + field);
            expect(isConstant || Modifier.isPrivate(field.getModifiers()), "a field: " + field);
        }
        for (Constructor<?> constructor : DeedCourt.class.getDeclaredConstructors()) {
            expect(Modifier.isPublic(constructor.getModifiers()) && constructor.getParameterCount() == 0,
                "a constructor: " + constructor);
        }
        expect(Modifier.isFinal(DeedCourt.class.getModifiers()), "the class is final");
    }

    private static void classes() {
        List<Class<?>> all = new ArrayList<>(Arrays.asList(DeedCourt.class.getDeclaredClasses()));
        all.add(DeedCourt.class);
        expect(all.size() <= 12, all.size() + " classes");
        for (Class<?> c : all) {
            expect(c == DeedCourt.class || Modifier.isStatic(c.getModifiers()), "not static: " + c);
            int fields = 0;
            for (Field field : c.getDeclaredFields()) {
                boolean isStatic = Modifier.isStatic(field.getModifiers());
                fields += isStatic ? 0 : 1;
                expect(!isStatic || Modifier.isFinal(field.getModifiers()), "static, but not final: " + field);
                Class<?> type = field.getType();
                expect(!isStatic || type.isPrimitive() || type == int[].class || type == String.class, "static: " + field);
            }
            expect(fields <= 20, fields + " fields in " + c);
        }
    }
}
