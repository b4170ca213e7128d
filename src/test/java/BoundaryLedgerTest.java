import java.io.IOException;
import java.lang.reflect.Method;
import java.nio.file.Files;
import java.nio.file.Path;
import java.util.ArrayList;
import java.util.List;
import java.util.regex.Matcher;
import java.util.regex.Pattern;

/** Holds the boundary tests against the document: each quotes it, and each boundary that it names has a test. */
public final class BoundaryLedgerTest {
    private static final Check check = new Check();
    private static final Path DOCUMENT = Path.of("../shared/DOC.md");
    private static final int PROMISES = 28;

    private static final List<Class<?>> TESTS = List.of(BoundaryTextTest.class, BoundaryHouseTest.class,
        BoundaryActsTest.class, BoundaryToComeTest.class, BoundaryHeardTest.class, BoundaryChancesTest.class,
        BoundarySlotsTest.class);

    /** These quote the document, too, but hold no boundary, so a boundary that they alone quote still lacks its test. */
    private static final List<Class<?>> OTHERS = List.of(GoneOnTest.class, OnlyThatTest.class);

    /** The words by which the document names a bound, a choice among like ones, or a refusal. */
    private static final Pattern BOUNDARY = Pattern.compile("at most|or more|\\d+ \\.\\. \\d+|the least|at first|At first"
        + "|alone|in least terms|less than 0|wrapping|if there is|if it can be|forgotten|refused|told first|told ahead"
        + "|told yet|whatever came|set aside|there are\\)|UNKNOWN|BAD|LATE|FULL|NONE");

    /** What all promises share, and then each promise's own words. */
    private final String[] parts = new String[PROMISES + 1];
    private final boolean[][] held = new boolean[PROMISES + 1][];

    public static void main(String[] args) throws IOException {
        new BoundaryLedgerTest().go();
        check.end("BoundaryLedgerTest");
    }

    private void go() throws IOException {
        String document = Files.readString(DOCUMENT).replaceAll("\\s+", " ");
        readParts(document);
        int[] tests = new int[PROMISES + 1];
        List<String> names = new ArrayList<>();
        for (Class<?> type : TESTS) {
            for (Method test : Boundaries.of(type)) {
                check.holds(test.getName() + " tells promise and boundary",
                    test.getName().matches("promise\\d\\d_\\w+"));
                names.add(test.getName());
                int promise = Boundaries.promiseOf(test);
                tests[promise]++;
                for (String words : test.getAnnotation(Says.class).value()) {
                    boolean its = hold(promise, words) | hold(0, words);
                    check.holds(test.getName() + " quotes the document: " + words, its);
                }
            }
        }
        check.due("tests of one name", names.size() - names.stream().distinct().count(), 0);
        for (Class<?> type : OTHERS) {
            quotesAreTheDocuments(type);
        }
        for (int promise = 1; promise <= PROMISES; promise++) {
            check.holds("promise " + promise + " has a boundary test", tests[promise] > 0);
        }
        for (int part = 0; part <= PROMISES; part++) {
            eachBoundaryIsHeld(part);
        }
    }

    private void quotesAreTheDocuments(Class<?> type) {
        for (Method test : Boundaries.of(type)) {
            check.holds(test.getName() + " tells promise", test.getName().matches("promise\\d\\d_\\w+"));
            String its = parts[Boundaries.promiseOf(test)];
            for (String words : test.getAnnotation(Says.class).value()) {
                check.holds(test.getName() + " quotes the document: " + words,
                    its.contains(words) || parts[0].contains(words));
            }
        }
    }

    /** Leaves out the face, which names the methods and no boundary, and what is not promised. */
    private void readParts(String document) {
        String terms = between(document, "An object is used for", "## The public face")
            + "SEATS are 0 .. " + between(document, "## Terms", "Ahead of the calls");
        keepPart(0, terms);
        for (int promise = 1; promise <= PROMISES; promise++) {
            String next = promise < PROMISES ? "## Promise " + (promise + 1) + ":" : "## Not promised";
            keepPart(promise, between(document, "## Promise " + promise + ":", next));
        }
    }

    private void keepPart(int part, String words) {
        parts[part] = words;
        held[part] = new boolean[words.length()];
    }

    private static String between(String document, String from, String to) {
        int start = document.indexOf(from);
        int end = document.indexOf(to, Math.max(start, 0));
        check.holds("the document has " + from + " and " + to, start >= 0 && end > start);
        return start >= 0 && end > start ? document.substring(start, end) : "";
    }

    private boolean hold(int part, String words) {
        int at = parts[part].indexOf(words);
        boolean found = at >= 0;
        while (at >= 0) {
            java.util.Arrays.fill(held[part], at, at + words.length(), true);
            at = parts[part].indexOf(words, at + 1);
        }
        return found;
    }

    private void eachBoundaryIsHeld(int part) {
        Matcher matcher = BOUNDARY.matcher(parts[part]);
        while (matcher.find()) {
            boolean all = true;
            for (int at = matcher.start(); at < matcher.end(); at++) {
                all &= held[part][at];
            }
            String around = parts[part].substring(Math.max(0, matcher.start() - 30),
                Math.min(parts[part].length(), matcher.end() + 30));
            check.holds((part == 0 ? "the terms" : "promise " + part) + " name a boundary without a test: .." + around
                + "..", all);
        }
    }
}
