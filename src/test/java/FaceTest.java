import java.io.IOException;
import java.lang.reflect.Constructor;
import java.lang.reflect.Field;
import java.lang.reflect.Member;
import java.lang.reflect.Method;
import java.lang.reflect.Modifier;
import java.nio.file.Files;
import java.nio.file.Path;
import java.util.Arrays;
import java.util.Set;
import java.util.TreeSet;
import java.util.regex.Pattern;

/** The public face as the document writes it, and what of LANGUAGE.md can be told from outside. */
public final class FaceTest {
    private static final String[] FACE = {
        "int letter(int)", "int blank()", "int fault()", "int garment()", "int about(int,int)", "int as(int,int)",
        "int lot(int)", "int lotOf(int,int)", "int buy(int,int)", "int back(int,int)", "int knit(int,int,int)",
        "int undo(int)", "int gauge(int,int)", "int wash()", "int least(int)", "int wanted(int,int)",
        "int found(int,int)", "int fits()", "int sure(int)", "int years(int,int,int)", "int image()",
        "int restore()", "int count(int)", "long digest()"};
    private static final String[] CONSTANTS = {"NONE", "UNKNOWN", "OUTSIDE", "STATE", "FULL"};
    private static final Path SOURCE = Path.of("src/main/java/DyeLots.java");
    private static final Due DUE = new Due("the face");

    public static void main(String[] args) throws IOException {
        members();
        nestedClasses();
        source(Files.readString(SOURCE));
        Due.end();
    }

    private static void holds(String what, boolean is) {
        DUE.is(what, is ? 1 : 0, 1);
    }

    private static boolean isPublic(Member member) {
        return Modifier.isPublic(member.getModifiers());
    }

    private static boolean isPrivate(Member member) {
        return Modifier.isPrivate(member.getModifiers());
    }

    private static String signature(Method method) {
        StringBuilder text = new StringBuilder(method.getReturnType() + " " + method.getName() + "(");
        for (Class<?> type : method.getParameterTypes()) {
            text.append(text.charAt(text.length() - 1) == '(' ? "" : ",").append(type);
        }
        return text.append(")").toString();
    }

    private static void members() {
        Set<String> methods = new TreeSet<>();
        Set<String> names = new TreeSet<>();
        for (Method method : DyeLots.class.getDeclaredMethods()) {
            if (isPublic(method)) {
                methods.add(signature(method));
                names.add(method.getName());
                holds(method + " is not static", !Modifier.isStatic(method.getModifiers()));
            }
            holds(method + " is public or private", isPublic(method) || isPrivate(method));
        }
        holds("the methods are " + methods, methods.equals(new TreeSet<>(Arrays.asList(FACE))));
        for (Method method : DyeLots.class.getDeclaredMethods()) {
            holds(method + " bears a public name", isPublic(method) || !names.contains(method.getName()));
        }
        Set<String> constants = new TreeSet<>();
        for (Field field : DyeLots.class.getDeclaredFields()) {
            if (isPublic(field)) {
                constants.add(field.getName());
            }
            holds(field + " is public or private", isPublic(field) || isPrivate(field));
        }
        holds("the constants are " + constants, constants.equals(new TreeSet<>(Arrays.asList(CONSTANTS))));
        Constructor<?>[] made = DyeLots.class.getDeclaredConstructors();
        holds("one public constructor", made.length == 1 && isPublic(made[0]) && made[0].getParameterCount() == 0);
        holds("the class is final", Modifier.isFinal(DyeLots.class.getModifiers()));
    }

    private static void nestedClasses() {
        Class<?>[] nested = DyeLots.class.getDeclaredClasses();
        holds("at most twelve classes", nested.length < 12);
        staticFieldsAreFinal(DyeLots.class);
        for (Class<?> one : nested) {
            int modifiers = one.getModifiers();
            holds(one + " is static", Modifier.isStatic(modifiers));
            holds(one + " is hidden", !Modifier.isPublic(modifiers) && !Modifier.isProtected(modifiers));
            staticFieldsAreFinal(one);
        }
    }

    private static void staticFieldsAreFinal(Class<?> of) {
        int fields = 0;
        for (Field field : of.getDeclaredFields()) {
            boolean isStatic = Modifier.isStatic(field.getModifiers());
            holds(field + " is final", !isStatic || Modifier.isFinal(field.getModifiers()));
            fields += isStatic ? 0 : 1;
        }
        holds(of + " has at most twenty fields", fields <= 20);
    }

    private static void source(String text) {
        String code = text.replaceAll("(?s)/\\*.*?\\*/", "").replaceAll("//[^\n]*", "");
        for (String word : new String[] {"import", "package", "try", "catch", "finally", "synchronized", "assert",
            "protected", "Exact", "Random", "Thread", "nanoTime", "currentTimeMillis", "hashCode", "toString"}) {
            holds("no word " + word, !Pattern.compile("\\b" + word).matcher(code).find());
        }
        holds("no lambda", !code.contains("->"));
        holds("no method reference", !code.contains("::"));
        for (char sign : text.toCharArray()) {
            if (sign > 126 || sign < 32 && sign != '\n') {
                holds("a sign " + (int) sign, false);
            }
        }
        int since = 0;
        int line = 0;
        for (String row : text.split("\n")) {
            line++;
            boolean isHead = row.matches(" {4}( {4})?[\\w\\[\\] ]+\\([^)]*\\) \\{");
            since = isHead ? line : since;
            if (row.matches(" {4}( {4})?\\}") && since > 0) {
                holds("the method at line " + since + " is short", line - since <= 60);
                since = 0;
            }
        }
    }
}
