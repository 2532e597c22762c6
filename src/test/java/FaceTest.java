import java.io.IOException;
import java.lang.reflect.Constructor;
import java.lang.reflect.Field;
import java.lang.reflect.Method;
import java.lang.reflect.Modifier;
import java.nio.file.Files;
import java.nio.file.Path;
import java.util.Arrays;
import java.util.Set;
import java.util.TreeSet;
import java.util.regex.Pattern;

/** The document's public face and no more of it, and words that LANGUAGE.md keeps out of the file. */
public final class FaceTest {
    private static final String[] METHODS = {
        "int versions(int)", "int term(int,long,boolean)", "int both(int,int,boolean)", "int relate(int,int)",
        "int about(int,int)", "long set(int)", "boolean needs(int,int,int,long,int)", "int derive(int,int)",
        "int bar(int,long,boolean)", "int learn(int,int,int)", "int count()", "int terms(int)", "int part(int,int,int)",
        "long partSet(int,int)", "boolean choose(int)", "void forget()", "int state(int)", "int forced(int)",
        "int spread()", "int chosen(int,int)", "long chosenSet(int)", "int print(int)", "int at(int)"
    };
    private static final String[] KEPT_OUT = {
        "\\bthrow\\b", "\\btry\\b", "\\bcatch\\b", "\\bsynchronized\\b", "\\bassert\\b", "\\bimport\\b", "\\bpackage\\b",
        "\\bprotected\\b", "->", "::", "Exact\\b", "\\bstatic \\{", "\\bhashCode\\b", "\\btoString\\b"
    };
    private static final Check CHECK = new Check();

    public static void main(String[] args) throws IOException {
        dueMethods();
        dueMembers();
        dueInsideClasses();
        dueText(Files.readString(Path.of("src/main/java/DemandTerms.java")));
        CHECK.finish();
    }

    private static void dueMethods() {
        Set<String> found = new TreeSet<>();
        Set<String> publicNames = new TreeSet<>();
        for (Method method : DemandTerms.class.getDeclaredMethods()) {
            if (Modifier.isPublic(method.getModifiers())) {
                found.add(signature(method));
                publicNames.add(method.getName());
                CHECK.due(method.getName() + " is static", Modifier.isStatic(method.getModifiers()), false);
            }
        }
        CHECK.due("public methods", found.toString(), new TreeSet<>(Arrays.asList(METHODS)).toString());
        for (Method method : DemandTerms.class.getDeclaredMethods()) {
            if (!Modifier.isPublic(method.getModifiers())) {
                CHECK.due(method.getName() + " is private", Modifier.isPrivate(method.getModifiers()), true);
                CHECK.due(method.getName() + " bears a public name", publicNames.contains(method.getName()), false);
            }
        }
    }

    private static String signature(Method method) {
        StringBuilder text = new StringBuilder(method.getReturnType().getName()).append(' ').append(method.getName()).append('(');
        for (Class<?> type : method.getParameterTypes()) {
            text.append(text.charAt(text.length() - 1) == '(' ? "" : ",").append(type.getName());
        }
        return text.append(')').toString();
    }

    private static void dueMembers() {
        CHECK.due("the class", Modifier.toString(DemandTerms.class.getModifiers()), "public final");
        Constructor<?>[] made = DemandTerms.class.getDeclaredConstructors();
        CHECK.due("constructors", made.length, 1);
        CHECK.due("the constructor is public", Modifier.isPublic(made[0].getModifiers()), true);
        CHECK.due("the constructor's parameters", made[0].getParameterCount(), 0);
        for (Field field : DemandTerms.class.getDeclaredFields()) {
            String want = field.getName().equals("NONE") ? "public static final" : Modifier.isStatic(field.getModifiers()) ? "private static final" : "private final";
            CHECK.due(field.getName(), Modifier.toString(field.getModifiers()), want);
        }
    }

    private static void dueInsideClasses() {
        for (Class<?> inside : DemandTerms.class.getDeclaredClasses()) {
            CHECK.due(inside.getName(), Modifier.toString(inside.getModifiers()), "private static final");
        }
    }

    private static void dueText(String text) {
        String code = text.replaceAll("(?s)/\\*.*?\\*/", "").replaceAll("//[^\n]*", "");
        for (String word : KEPT_OUT) {
            CHECK.due("the file has " + word, Pattern.compile(word).matcher(code).find(), false);
        }
    }
}
