import java.io.IOException;
import java.lang.reflect.Constructor;
import java.lang.reflect.Field;
import java.lang.reflect.Member;
import java.lang.reflect.Method;
import java.lang.reflect.Modifier;
import java.nio.charset.StandardCharsets;
import java.nio.file.Files;
import java.nio.file.Path;
import java.util.ArrayList;
import java.util.List;
import java.util.Set;
import java.util.TreeSet;

/**
 * The face of the class against the document's, and some of the rules of LANGUAGE.md that can be seen from outside: no
 * more than it forbids, as the tests are about what the class promises and not about how it is written.
 */
final class FaceTests {
    private static final String[] FORBIDDEN = {
        "::", "synchronized", "assert ", "finally", "static {", "Exact(", "System.out", "System.err", "System.in",
        "System.nano", "System.current", "System.get", "Random", "Thread", "java.io", "java.nio", "java.time",
        "Throwable", "NullPointerException", "ClassCastException", "NegativeArraySizeException",
        "ArrayIndexOutOfBoundsException", "ArrayStoreException"};
    // What LANGUAGE.md calls "some twelve" classes and "some twenty" fields.
    private static final int MOST_CLASSES = 14;
    private static final int MOST_FIELDS = 24;
    private static final int MOST_PARAMETERS = 7;

    private FaceTests() {
    }

    static void run(String source, String document) throws IOException {
        constants();
        classIsFinal();
        faceIsTheDocuments(Files.readString(Path.of(document), StandardCharsets.UTF_8));
        restIsPrivate();
        sourceKeepsTheRules(Files.readString(Path.of(source), StandardCharsets.UTF_8));
    }

    private static void constants() {
        Checks.same("NONE", -1, ChoirRegister.NONE);
        Checks.same("HAS_LEFT", 1, ChoirRegister.HAS_LEFT);
        Checks.same("AWAY", 2, ChoirRegister.AWAY);
        Checks.same("EXCUSED", 3, ChoirRegister.EXCUSED);
        Checks.same("BREAKING", 4, ChoirRegister.BREAKING);
        Checks.same("TOO_LOW", 5, ChoirRegister.TOO_LOW);
        Checks.same("TOO_HIGH", 6, ChoirRegister.TOO_HIGH);
    }

    private static void classIsFinal() {
        int modifiers = ChoirRegister.class.getModifiers();
        Checks.that("the class is public and final", Modifier.isPublic(modifiers) && Modifier.isFinal(modifiers));
        Checks.same("one constructor", 1, ChoirRegister.class.getDeclaredConstructors().length);
        Checks.same("one public constructor", 1, ChoirRegister.class.getConstructors().length);
    }

    private static void faceIsTheDocuments(String document) {
        Set<String> want = new TreeSet<>();
        int begin = document.indexOf("```java");
        String face = document.substring(begin, document.indexOf("```", begin + 3));
        for (String line : face.split("\n")) {
            String text = line.trim();
            if (text.startsWith("public ") && text.endsWith(";")) {
                want.add(text.replaceAll(" = .*;|;| throws .*", "").replaceAll("(int|char) \\w+(?=[,)])", "$1"));
            }
        }
        Set<String> got = new TreeSet<>();
        for (Field field : ChoirRegister.class.getFields()) {
            got.add(plain(field.toString()));
        }
        for (Constructor<?> constructor : ChoirRegister.class.getConstructors()) {
            got.add(plain(constructor.toString()));
        }
        for (Method method : ChoirRegister.class.getDeclaredMethods()) {
            if (Modifier.isPublic(method.getModifiers())) {
                got.add(plain(method.toString()));
            }
        }
        Checks.that("the face is the document's: due " + want + ", there is " + got, want.equals(got));
        Checks.same("51 promises and 7 constants", 58, want.size());
    }

    private static String plain(String member) {
        return member.replaceAll(" throws .*", "").replace("ChoirRegister.", "").replace(",", ", ");
    }

    private static void restIsPrivate() {
        Set<String> publicNames = new TreeSet<>();
        for (Method method : ChoirRegister.class.getDeclaredMethods()) {
            if (Modifier.isPublic(method.getModifiers())) {
                publicNames.add(method.getName());
            }
        }
        for (Member member : membersOf(ChoirRegister.class)) {
            int modifiers = member.getModifiers();
            Checks.that(member + " is neither public nor private",
                Modifier.isPublic(modifiers) || Modifier.isPrivate(modifiers) || member.isSynthetic());
        }
        checkClass(ChoirRegister.class, publicNames);
        Class<?>[] inside = ChoirRegister.class.getDeclaredClasses();
        Checks.that("there are too many classes", inside.length < MOST_CLASSES);
        for (Class<?> one : inside) {
            int modifiers = one.getModifiers();
            Checks.that(one + " is to be seen", !Modifier.isPublic(modifiers) && !Modifier.isProtected(modifiers));
            checkClass(one, publicNames);
        }
    }

    private static List<Member> membersOf(Class<?> one) {
        List<Member> members = new ArrayList<>(List.of(one.getDeclaredFields()));
        members.addAll(List.of(one.getDeclaredMethods()));
        return members;
    }

    private static void checkClass(Class<?> one, Set<String> publicNames) {
        int fields = 0;
        for (Field field : one.getDeclaredFields()) {
            boolean isStatic = Modifier.isStatic(field.getModifiers());
            Checks.that(field + " is static, but not final", !isStatic || Modifier.isFinal(field.getModifiers()));
            fields += isStatic ? 0 : 1;
        }
        Checks.that(one + " has too many fields", fields <= MOST_FIELDS);
        for (Method method : one.getDeclaredMethods()) {
            boolean isPrivate = Modifier.isPrivate(method.getModifiers()) && !method.isSynthetic();
            Checks.that(method + " bears the name of a public one", !isPrivate || !publicNames.contains(method.getName()));
            Checks.that(method + " takes too many parameters", method.getParameterCount() <= MOST_PARAMETERS);
        }
    }

    private static void sourceKeepsTheRules(String source) {
        String code = source.replaceAll("(?s)/\\*.*?\\*/", "").replaceAll("//.*", "");
        for (String word : FORBIDDEN) {
            Checks.that("the source holds \"" + word + "\"", !code.contains(word));
        }
        for (String line : code.split("\n")) {
            boolean isOfSwitch = line.contains("case ") || line.contains("default ");
            Checks.that("no lambda: " + line, !line.contains("->") || isOfSwitch);
            Checks.that("no package: " + line, !line.startsWith("package "));
            Checks.that("no such import: " + line, !line.startsWith("import ") || line.startsWith("import java.util."));
        }
    }
}
