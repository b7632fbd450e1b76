import java.io.IOException;
import java.lang.reflect.Constructor;
import java.lang.reflect.Field;
import java.lang.reflect.Method;
import java.lang.reflect.Modifier;
import java.nio.file.Files;
import java.nio.file.Path;
import java.util.Arrays;
import java.util.TreeSet;
import java.util.regex.Matcher;
import java.util.regex.Pattern;

/** The document's face, and the rules of LANGUAGE.md that can be read off the class and its text. */
public final class LanguageTest {
    private static final String[] FACE = {
        "int broadcast(int)", "int deliver(int,int,int)", "boolean suspect(int,int,boolean)", "boolean crash(int,int)",
        "int letters(int,int)", "int letter(int,int,int)", "boolean suspects(int,int)", "int state(int)",
        "int finished(int)", "int round(int)", "int estimate(int)", "int stamp(int)", "int known(int)",
        "int delivered(int)", "int deliveredAt(int,int)", "int verdict(int,int)", "int majority()", "int messages()"};
    private static final String[] RULED_OUT = {
        "\\bimport\\b", "\\bpackage\\b", "\\bthrows?\\b", "\\btry\\b", "\\bcatch\\b", "\\bsynchronized\\b", "\\bassert\\b",
        "->", "::", "\\bThread\\b", "\\bSystem\\.(?!arraycopy\\b)", "\\bMath\\.random\\b", "Exact\\b", "\\bstatic\\s*\\{",
        "\\bhashCode\\b", "\\btoString\\b", "\\bequals\\b", "\\bObject\\b", "\\bvar\\b"};
    private static final Check CHECK = new Check("LanguageTest");

    public static void main(String[] args) throws IOException {
        face();
        Class<?>[] inside = CouncilSequence.class.getDeclaredClasses();
        CHECK.due("at most twelve classes", inside.length <= 11, true);
        members(CouncilSequence.class);
        for (Class<?> nested : inside) {
            CHECK.begin(nested.getSimpleName());
            int flags = nested.getModifiers();
            CHECK.due("static", Modifier.isStatic(flags), true);
            CHECK.due("public or protected", Modifier.isPublic(flags) || Modifier.isProtected(flags), false);
            members(nested);
        }
        text(Files.readString(Path.of("src/main/java/CouncilSequence.java")));
        CHECK.end();
    }

    private static void face() {
        CHECK.begin("the face");
        Class<?> type = CouncilSequence.class;
        CHECK.due("public", Modifier.isPublic(type.getModifiers()), true);
        CHECK.due("final", Modifier.isFinal(type.getModifiers()), true);
        CHECK.due("package", type.getPackageName(), "");
        TreeSet<String> found = new TreeSet<>();
        TreeSet<String> names = new TreeSet<>();
        for (Method method : type.getDeclaredMethods()) {
            if (!Modifier.isPrivate(method.getModifiers())) {
                found.add(asText(method));
                names.add(method.getName());
                CHECK.due(method + " is public", Modifier.isPublic(method.getModifiers()), true);
                CHECK.due(method + " is static", Modifier.isStatic(method.getModifiers()), false);
            }
        }
        CHECK.due("methods", found.toString(), new TreeSet<>(Arrays.asList(FACE)).toString());
        for (Method method : type.getDeclaredMethods()) {
            if (Modifier.isPrivate(method.getModifiers())) {
                CHECK.due(method + " bears a public name", names.contains(method.getName()), false);
            }
        }
        Constructor<?>[] constructors = type.getDeclaredConstructors();
        CHECK.due("constructors", constructors.length, 1);
        CHECK.due("constructor", constructors[0].toString(), "public CouncilSequence(int)");
        for (Field field : type.getDeclaredFields()) {
            CHECK.due(field + " is private", Modifier.isPrivate(field.getModifiers()), true);
        }
    }

    private static String asText(Method method) {
        StringBuilder text = new StringBuilder(method.getReturnType().getName()).append(' ').append(method.getName());
        text.append('(');
        for (Class<?> type : method.getParameterTypes()) {
            text.append(text.charAt(text.length() - 1) == '(' ? "" : ",").append(type.getName());
        }
        return text.append(')').toString();
    }

    private static void members(Class<?> type) {
        int own = 0;
        for (Field field : type.getDeclaredFields()) {
            if (Modifier.isStatic(field.getModifiers())) {
                CHECK.due(field + " is final", Modifier.isFinal(field.getModifiers()), true);
            } else {
                own++;
            }
        }
        CHECK.due("some twenty fields", own <= 20, true);
        for (Method method : type.getDeclaredMethods()) {
            CHECK.due(method + " takes at most seven", method.getParameterCount() <= 7, true);
        }
    }

    private static void text(String whole) {
        CHECK.begin("the text");
        String code = whole.replaceAll("(?s)/\\*.*?\\*/", "").replaceAll("//[^\n]*", "");
        for (String ruledOut : RULED_OUT) {
            Matcher matcher = Pattern.compile(ruledOut).matcher(code);
            CHECK.due("has " + ruledOut, matcher.find(), false);
        }
        for (int i = 0; i < whole.length(); i++) {
            if (whole.charAt(i) > 255) {
                CHECK.due("a character beyond 255 at " + i, true, false);
            }
        }
    }
}
