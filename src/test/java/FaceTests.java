import java.io.IOException;
import java.lang.reflect.Constructor;
import java.lang.reflect.Field;
import java.lang.reflect.Member;
import java.lang.reflect.Method;
import java.lang.reflect.Modifier;
import java.nio.charset.StandardCharsets;
import java.nio.file.Files;
import java.nio.file.Path;
import java.util.ArrayList;
import java.util.List;
import java.util.Set;
import java.util.TreeSet;

/** The face of the class against the document's, and some of the rules of LANGUAGE.md that can be seen from outside. */
final class FaceTests {
    private static final String[] FORBIDDEN = {
        "->", "::", "instanceof", "synchronized", "assert ", "finally", "catch", "lambda", "package ", "static {",
        "Integer.MAX", "Integer.MIN", "double", "float", "System.out", "Exact(", "@", "record ", "var "};

    private FaceTests() {
    }

    static void run(String source, String document) throws IOException {
        constants();
        classIsFinal();
        faceIsTheDocuments(Files.readString(Path.of(document), StandardCharsets.UTF_8));
        restIsPrivate();
        sourceKeepsTheRules(Files.readString(Path.of(source), StandardCharsets.UTF_8));
    }

    private static void constants() {
        Checks.same("NONE", -1, ChoirRegister.NONE);
        Checks.same("HAS_LEFT", 1, ChoirRegister.HAS_LEFT);
        Checks.same("AWAY", 2, ChoirRegister.AWAY);
        Checks.same("EXCUSED", 3, ChoirRegister.EXCUSED);
        Checks.same("BREAKING", 4, ChoirRegister.BREAKING);
        Checks.same("TOO_LOW", 5, ChoirRegister.TOO_LOW);
        Checks.same("TOO_HIGH", 6, ChoirRegister.TOO_HIGH);
    }

    private static void classIsFinal() {
        int modifiers = ChoirRegister.class.getModifiers();
        Checks.that("the class is public and final", Modifier.isPublic(modifiers) && Modifier.isFinal(modifiers));
        Checks.same("one constructor", 1, ChoirRegister.class.getDeclaredConstructors().length);
        Checks.same("one public constructor", 1, ChoirRegister.class.getConstructors().length);
    }

    private static void faceIsTheDocuments(String document) {
        Set<String> want = new TreeSet<>();
        int begin = document.indexOf("```java");
        String face = document.substring(begin, document.indexOf("```", begin + 3));
        for (String line : face.split("\n")) {
            String text = line.trim();
            if (text.startsWith("public ") && text.endsWith(";")) {
                want.add(text.replaceAll(" = .*;|;", "").replaceAll("(int|char) \\w+(?=[,)])", "$1"));
            }
        }
        Set<String> got = new TreeSet<>();
        for (Field field : ChoirRegister.class.getFields()) {
            got.add(plain(field.toString()));
        }
        for (Constructor<?> constructor : ChoirRegister.class.getConstructors()) {
            got.add(plain(constructor.toString()));
        }
        for (Method method : ChoirRegister.class.getDeclaredMethods()) {
            if (Modifier.isPublic(method.getModifiers())) {
                got.add(plain(method.toString()));
            }
        }
        Checks.that("the face is the document's: due " + want + ", there is " + got, want.equals(got));
        Checks.same("51 promises and 7 constants", 58, want.size());
    }

    private static String plain(String member) {
        return member.replace("java.lang.", "").replace("ChoirRegister.", "").replace(",", ", ");
    }

    private static void restIsPrivate() {
        List<Member> members = new ArrayList<>(List.of(ChoirRegister.class.getDeclaredFields()));
        members.addAll(List.of(ChoirRegister.class.getDeclaredMethods()));
        Set<String> publicNames = new TreeSet<>();
        for (Method method : ChoirRegister.class.getDeclaredMethods()) {
            if (Modifier.isPublic(method.getModifiers())) {
                publicNames.add(method.getName());
            }
        }
        for (Member member : members) {
            int modifiers = member.getModifiers();
            Checks.that(member + " is public or private", Modifier.isPublic(modifiers) || Modifier.isPrivate(modifiers));
            boolean isNamedAsPublic = Modifier.isPrivate(modifiers) && member instanceof Method
                && publicNames.contains(member.getName());
            Checks.that(member + " bears the name of a public method", !isNamedAsPublic);
            boolean isState = member instanceof Field && Modifier.isStatic(modifiers);
            Checks.that(member + " is static, but not final", !isState || Modifier.isFinal(modifiers));
        }
        Class<?>[] inside = ChoirRegister.class.getDeclaredClasses();
        Checks.that("at most twelve classes", inside.length < 12);
        for (Class<?> one : inside) {
            Checks.that(one + " is static", Modifier.isStatic(one.getModifiers()));
            Checks.that(one + " has at most twenty fields", one.getDeclaredFields().length <= 20);
            for (Method method : one.getDeclaredMethods()) {
                Checks.that(method + " bears the name of a public one", !publicNames.contains(method.getName()));
                Checks.that(method + " takes at most seven parameters", method.getParameterCount() <= 7);
            }
        }
    }

    private static void sourceKeepsTheRules(String source) {
        String code = source.replaceAll("(?s)/\\*.*?\\*/", "").replaceAll("//.*", "");
        for (String word : FORBIDDEN) {
            Checks.that("the source holds \"" + word + "\"", !code.contains(word));
        }
        for (String line : code.split("\n")) {
            boolean isImport = line.startsWith("import ");
            Checks.that("no such import: " + line, !isImport || line.equals("import java.util.Arrays;"));
            Checks.that("only ASCII: " + line, line.chars().allMatch(sign -> sign < 128));
        }
    }
}
