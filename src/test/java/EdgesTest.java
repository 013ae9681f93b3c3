import java.lang.reflect.InvocationTargetException;
import java.lang.reflect.Method;
import java.util.Arrays;
import java.util.Comparator;

/**
 * Runs the tests of the edges that the document names: each one for itself, with the words that it is about, which
 * must stand in the document. No words of the document may be left without a test. With a part of names as an
 * argument it runs only those tests whose name begins so, such as p05.
 */
final class EdgesTest {
    private static final Class<?>[] EDGES = {EdgesOfServices.class, EdgesOfRolling.class, EdgesOfSteps.class,
        EdgesOfBudgets.class, EdgesOfFlags.class, EdgesOfDuty.class, EdgesOfAsking.class};

    private final Document document = Document.read();
    private final boolean[] hasSeveral = new boolean[Document.PROMISES + 1];
    private final boolean[] hasUnchanged = new boolean[Document.PROMISES + 1];
    private int tests;

    private EdgesTest() throws Exception {
    }

    public static void main(String[] args) throws Exception {
        EdgesTest edges = new EdgesTest();
        for (Class<?> one : EDGES) {
            edges.run(one, args.length > 0 ? args[0] : "p");
        }
        if (args.length == 0) {
            edges.allWordsHaveTests();
        }
        System.out.println(edges.tests + " edges");
        Check.end();
    }

    private void run(Class<?> edges, String names) throws Exception {
        Method[] methods = edges.getDeclaredMethods();
        Arrays.sort(methods, Comparator.comparing(Method::getName));
        for (Method method : methods) {
            Says says = method.getAnnotation(Says.class);
            boolean isNamed = method.getName().matches("p\\d\\d_.*");
            Check.due(method.getName() + " tells what it is about", isNamed, says != null);
            if (says != null && method.getName().startsWith(names)) {
                run(method, says);
            }
        }
    }

    private void run(Method method, Says says) throws Exception {
        int promise = says.promise();
        Check.about(method.getName() + " \"" + says.value() + "\": ");
        Check.due("the name's promise", method.getName().substring(0, 4), String.format("p%02d_", promise));
        Check.due("the words stand in the document", document.quote(promise, says.value()), true);
        hasSeveral[promise] |= says.value().equals(Edges.SEVERAL);
        hasUnchanged[promise] |= says.value().equals(Edges.UNCHANGED);
        method.setAccessible(true);
        try {
            method.invoke(null);
        } catch (InvocationTargetException thrown) {
            Check.due("the test itself", "throws " + thrown.getCause(), "no exception");
        }
        tests++;
        Check.about("");
    }

    private void allWordsHaveTests() {
        for (String words : document.unquoted()) {
            Check.due("words without a test: " + words, true, false);
        }
        for (int promise = 1; promise <= Document.PROMISES; promise++) {
            int refusals = document.refusals(promise);
            Check.due("first of several, promise " + promise, hasSeveral[promise], refusals > 1);
            Check.due("nothing changed, promise " + promise, hasUnchanged[promise], refusals > 0);
        }
    }
}
