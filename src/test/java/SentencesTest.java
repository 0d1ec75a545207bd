import java.io.IOException;
import java.lang.reflect.Method;
import java.nio.file.Path;
import java.util.Arrays;
import java.util.Comparator;
import java.util.Set;
import java.util.TreeSet;

/**
 * Each sentence of the document that names a boundary case, with a test of its own: a method that says by
 * {@link Holds} which sentence that is. The quotes are looked up in the document, and what is quoted by none of them
 * must be told here as naming no boundary.
 */
public final class SentencesTest {
    private static final Class<?>[] GROUPS = {TownSentences.class, TextSentences.class, WeekSentences.class,
        AheadSentences.class, LotSentences.class, RefusalSentences.class};

    private static final String[] WITHOUT_BOUNDARY = {
        "======== 1", "======== 2", "======== 3", "what later calls answer is free.", "each of a SORT, with",
        "MEAN length.",
        "Ahead of the calls `worth`, `need`, `coming`, `joining`, `join`, `run`, `person`, `of`, `empty` the interface"
            + " says: ---- the town.",
        "Ahead of the calls `write`, `erase`, `fault`, `rules`, `rule`, `way` the interface says: ---- rules.",
        "Ahead of the calls `would`, `gain`, `best`, `rest` the interface says: ---- what would be.",
        "Ahead of the calls `lot`, `holder`, `swaps`, `rings`, `chain`, `mean`, `count` the interface says: ---- lots,"
            + " swaps, the long run."};

    public static void main(String[] args) throws IOException, ReflectiveOperationException {
        Document document = new Document(Path.of(System.getProperty("document")));
        Check check = new Check();
        Set<Integer> promises = new TreeSet<>();
        for (Class<?> group : GROUPS) {
            Method[] methods = group.getDeclaredMethods();
            Arrays.sort(methods, Comparator.comparing(Method::getName));
            for (Method method : methods) {
                Holds holds = method.getAnnotation(Holds.class);
                if (holds == null) continue;
                hold(check, document, method, holds);
                for (int promise : holds.promise()) promises.add(promise);
            }
        }
        check.about("the sentences");
        check.due("promises with a sentence", promises.size(), Document.PROMISES);
        for (String words : WITHOUT_BOUNDARY) check.holds("told: " + words, document.says(0, words));
        for (String piece : document.unquoted()) check.holds("without a test: " + piece, false);
        check.end();
    }

    private static void hold(Check check, Document document, Method method, Holds holds)
            throws ReflectiveOperationException {
        check.about("promise " + Arrays.toString(holds.promise()) + ", \"" + holds.says() + "\", "
            + method.getDeclaringClass().getSimpleName() + "." + method.getName());
        for (int promise : holds.promise()) {
            check.holds("stands in the document for promise " + promise, document.says(promise, holds.says()));
        }
        int before = check.asked();
        method.invoke(null, check);
        check.holds("has been asked for", check.asked() > before);
    }
}
