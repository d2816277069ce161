import java.io.IOException;
import java.lang.reflect.InvocationTargetException;
import java.lang.reflect.Method;
import java.lang.reflect.Modifier;
import java.nio.file.Files;
import java.nio.file.Path;
import java.util.Arrays;
import java.util.Comparator;

/**
 * A test for each sentence of the document that names a boundary case. The tests are the methods of the classes whose
 * names end in Edges; the first line of each says which sentence it is. The document's path is the second argument.
 */
public final class EdgesTest {
    private static final Class<?>[] ALL = {
        TermsEdges.class, UpkeepEdges.class, WritingEdges.class, DeletingEdges.class, CopiesEdges.class,
        PairEdges.class, AnswersEdges.class, SumsEdges.class,
    };

    private EdgesTest() {
    }

    public static void main(String[] args) throws IOException, IllegalAccessException {
        for (Class<?> edges : ALL) {
            runAll(edges);
        }
        if (args.length > 1 && Files.isReadable(Path.of(args[1]))) {
            Doc.checkAgainst(Path.of(args[1]));
        } else {
            System.out.println("EdgesTest: without the document it is not looked whether each sentence has a test");
        }
        Check.end("EdgesTest");
    }

    /** All of them are found by themselves, so that none can be forgotten in a list. */
    private static void runAll(Class<?> edges) throws IllegalAccessException {
        Method[] tests = Arrays.stream(edges.getDeclaredMethods())
                .filter(method -> method.getParameterCount() == 0 && !Modifier.isPrivate(method.getModifiers()))
                .sorted(Comparator.comparing(Method::getName)).toArray(Method[]::new);
        for (Method test : tests) {
            String name = edges.getName() + "." + test.getName();
            int citations = Doc.citations();
            Check.about(name + ": ");
            try {
                test.invoke(null);
            } catch (InvocationTargetException e) {
                Check.same(name + " goes on", "no exception", e.getCause().toString());
            }
            Check.answers(name + " says which sentence it is", 1, Doc.citations() - citations);
        }
    }
}
