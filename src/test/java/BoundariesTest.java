import java.io.IOException;
import java.lang.reflect.Method;
import java.nio.file.Files;
import java.nio.file.Path;
import java.util.ArrayList;
import java.util.Comparator;
import java.util.List;

/** Each sentence of the document that names a boundary case has a test of its own, and holds. */
public final class BoundariesTest {
    private static final Class<?>[] HOLDERS = {TermBoundaries.class, ClashBoundaries.class, ChoiceBoundaries.class};
    private static final Path DOCUMENT = Path.of("../shared/DOC.md");
    private static final Check CHECK = new Check();

    public static void main(String[] args) throws IOException, ReflectiveOperationException {
        List<Method> tests = allTests();
        for (Method test : tests) {
            CHECK.subject(test.getAnnotation(Says.class).in() + ", " + test.getName());
            test.invoke(null, CHECK);
        }
        // The boundary cases can be tested without the document; only whether one was forgotten can't.
        if (Files.exists(DOCUMENT)) {
            dueQuoted(tests, new Document(Files.readString(DOCUMENT)));
        } else {
            System.out.println("no " + DOCUMENT + ": whether each of its sentences has a test isn't known");
        }
        CHECK.finish();
    }

    private static List<Method> allTests() {
        List<Method> found = new ArrayList<>();
        for (Class<?> holder : HOLDERS) {
            for (Method method : holder.getDeclaredMethods()) {
                if (method.isAnnotationPresent(Says.class)) {
                    found.add(method);
                }
            }
        }
        found.sort(Comparator.comparing(Method::getName));
        return found;
    }

    private static void dueQuoted(List<Method> tests, Document document) {
        for (Method test : tests) {
            Says says = test.getAnnotation(Says.class);
            CHECK.subject(says.in() + ", " + test.getName());
            for (String words : says.text()) {
                CHECK.due("the document says: " + words, document.quote(says.in(), words), true);
            }
        }
        CHECK.subject("the document");
        CHECK.due("sections", document.sectionCount(), 26);
        for (String section : document.sectionNames()) {
            CHECK.due(section + " has a test", document.isQuotedFrom(section), true);
            CHECK.due(section + " has boundaries without a test", document.boundariesLeft(section).toString(), "[]");
        }
    }
}
