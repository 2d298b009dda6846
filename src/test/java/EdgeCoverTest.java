import java.lang.reflect.Method;
import java.nio.file.Files;
import java.nio.file.Path;
import java.util.regex.Matcher;
import java.util.regex.Pattern;

/**
 * Looks whether each place of ../shared/DOC.md that names a boundary stands in words for which there is a test under
 * @Edge, and whether those tests say words of the document. Run from the project's root.
 */
public final class EdgeCoverTest {
    private static final Due due = new Due();
    private static final Class<?>[] TESTS = {PeopleEdgeTest.class, LawEdgeTest.class, ThoughtEdgeTest.class,
        StoresEdgeTest.class, DeedEdgeTest.class, ShelfEdgeTest.class};
    private static final int PROMISES = 40;
    // What tells a boundary: a span, a refusal, the most and the least, what is empty or full, cut, or wraps.
    private static final Pattern MARK = Pattern.compile("-?\\d+ \\.\\. \\d+|\\bBAD\\b|\\bNOT\\b|\\bFULL\\b|\\bSTATE:"
        + "|\\bVOID: BAD|-1[1-4]\\b|Long\\.MIN_VALUE|at most|at least|at first\\)|\\bnone\\b|\\bnobody\\b|\\bnothing\\b"
        + "|of like ones|wraps?\\b|\\bcut\\b|99 stays|toward 0|by 0 they|above 0|below 0|is 0\\b|is not 0|too early"
        + "|one or more|two or more|No blanks|1 to 4 digits|0 to 6|behind the last|passed over|the first 24|lowest|is lost");

    private final String doc;
    private final int[] begins = new int[PROMISES + 2];
    private final boolean[] covered;

    private EdgeCoverTest(String doc) {
        this.doc = doc;
        covered = new boolean[doc.length()];
        for (int p = 1; p <= PROMISES; p++) begins[p] = doc.indexOf("## Promise " + p + ": ");
        begins[PROMISES + 1] = doc.indexOf("## Not promised");
    }

    /** The words lie outside the promises, or under this promise's heading. */
    private boolean cover(int promise, String words) {
        boolean found = false;
        for (int at = doc.indexOf(words); at >= 0; at = doc.indexOf(words, at + 1)) {
            boolean terms = at < begins[1] || at >= begins[PROMISES + 1];
            boolean own = at >= begins[promise] && at < begins[promise + 1];
            if (!terms && !own) continue;
            found = true;
            for (int i = at; i < at + words.length(); i++) covered[i] = true;
        }
        return found;
    }

    private void coverAll() {
        int[] tests = new int[PROMISES + 1];
        for (Class<?> c : TESTS) {
            for (Method m : Edges.of(c)) {
                Edge edge = m.getAnnotation(Edge.class);
                tests[edge.promise()]++;
                for (String words : edge.says()) {
                    due.is(c.getName() + "." + m.getName() + " says, of promise " + edge.promise() + ", '" + words + "'",
                        cover(edge.promise(), words) ? 1 : 0, 1);
                }
            }
        }
        for (int p = 1; p <= PROMISES; p++) due.is("promise " + p + " has a test", tests[p] > 0 ? 1 : 0, 1);
    }

    /** The story ahead of the terms, and the face, bind nothing of their own. */
    private void marks() {
        Matcher mark = MARK.matcher(doc);
        int from = doc.indexOf("## Terms");
        while (mark.find()) {
            if (mark.start() < from || mark.start() >= begins[PROMISES + 1]) continue;
            String near = doc.substring(Math.max(0, mark.start() - 50), Math.min(doc.length(), mark.end() + 30));
            due.is("a test of '" + mark.group() + "' in '.." + near + "..'", covered[mark.start()] ? 1 : 0, 1);
        }
    }

    public static void main(String[] args) throws Exception {
        String text = Files.readString(Path.of("../shared/DOC.md"));
        EdgeCoverTest test = new EdgeCoverTest(text.replace("```text", "").replace("```", "").replaceAll("\\s+", " "));
        for (int p = 1; p <= PROMISES + 1; p++) due.is("heading " + p, test.begins[p] > 0 ? 1 : 0, 1);
        test.coverAll();
        test.marks();
        due.end();
    }
}
