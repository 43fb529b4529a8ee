import java.io.IOException;
import java.lang.reflect.Field;
import java.lang.reflect.Method;
import java.lang.reflect.Modifier;
import java.nio.file.Files;
import java.nio.file.Path;
import java.util.Arrays;
import java.util.Set;
import java.util.TreeSet;

/** The document itself: each of its sentences is held by a test that bears it in @Says; the face is as it tells. */
public final class SaysTest {
    private static final Path DOC = Path.of("../shared/DOC.md");
    private static final Class<?>[] TESTS = {TermsRefusedTest.class, TermsNodesTest.class, TermsViewsTest.class,
        TermsTalesTest.class, Promises01To12Test.class, Promises13To26Test.class};
    private static final Due D = new Due("SaysTest");

    public static void main(String[] args) throws IOException {
        String doc = Files.readString(DOC);
        D.due("the methods", facesOf(ViewBroadcast.class).toString(), facesIn(doc).toString());
        nothingElseIsOpen();
        eachSentenceHasATest(sentences(doc));
        D.end();
    }

    /** What the document promises, in single blanks, without headings and fences. */
    private static String sentences(String doc) {
        StringBuilder s = new StringBuilder(doc.substring(doc.indexOf("An object is used for"), doc.indexOf("## The public face")));
        for (String line : doc.substring(doc.indexOf("## Terms"), doc.indexOf("## Not promised")).split("\n")) {
            s.append(isHeading(line) ? "" : line.replaceAll("^=+ \\d (VIEWS\\. )?", "")).append(' ');
        }
        return s.toString().replaceAll("\\s+", " ");
    }

    private static boolean isHeading(String line) {
        boolean ofCalls = line.startsWith("Ahead of the calls") && !line.contains("STATE");
        return line.startsWith("#") || line.startsWith("```") || ofCalls;
    }

    private static void eachSentenceHasATest(String told) {
        boolean[] held = new boolean[told.length()];
        for (Class<?> tests : TESTS) {
            for (Method test : Sentences.of(tests)) {
                for (String words : test.getAnnotation(Says.class).value()) {
                    D.due("'" + words + "', borne by " + test.getName() + ", stands in the document", mark(told, words, held), 1);
                }
            }
        }
        StringBuilder open = new StringBuilder();
        for (int i = 0; i < told.length(); i++) {
            boolean says = Character.isLetterOrDigit(told.charAt(i)) && !held[i];
            open.append(says ? told.charAt(i) : held[i] ? '|' : ' ');
        }
        for (String words : open.toString().split("\\|+")) {
            D.due("words that no test bears", words.trim(), "");
        }
    }

    private static int mark(String told, String words, boolean[] held) {
        int from = told.indexOf(words);
        for (int at = from; at >= 0; at = told.indexOf(words, at + 1)) {
            Arrays.fill(held, at, at + words.length(), true);
        }
        return from >= 0 ? 1 : 0;
    }

    /** Each public method as 'name(int,int)'. */
    private static Set<String> facesOf(Class<?> made) {
        Set<String> all = new TreeSet<>();
        for (Method m : made.getDeclaredMethods()) {
            if (Modifier.isPublic(m.getModifiers())) {
                String list = Arrays.toString(m.getParameterTypes()).replaceAll("[\\[\\] ]", "");
                all.add(m.getReturnType() + " " + m.getName() + "(" + list + ")");
            }
        }
        return all;
    }

    private static Set<String> facesIn(String doc) {
        Set<String> all = new TreeSet<>();
        for (String line : doc.substring(doc.indexOf("```java"), doc.indexOf("## Terms")).split("\n")) {
            if (line.matches(" *public int .*")) {
                all.add(line.replaceAll(" *public |;", "").replaceAll("int \\w+(?=[,)])", "int").replace(", ", ","));
            }
        }
        return all;
    }

    private static void nothingElseIsOpen() {
        Class<?> made = ViewBroadcast.class;
        for (Method m : made.getDeclaredMethods()) {
            D.due("a method neither public nor private, " + m.getName(), isHalfOpen(m.getModifiers()), 0);
        }
        for (Field f : made.getDeclaredFields()) {
            D.due("a field neither public nor private, " + f.getName(), isHalfOpen(f.getModifiers()), 0);
        }
        D.due("public constants", made.getFields().length, 6);
        D.due("constructors", made.getDeclaredConstructors().length, 1);
        D.due("public ones", made.getConstructors().length, 1);
        D.due("public and final", made.getModifiers() & (Modifier.PUBLIC | Modifier.FINAL), Modifier.PUBLIC | Modifier.FINAL);
    }

    private static int isHalfOpen(int modifiers) {
        return Modifier.isPublic(modifiers) || Modifier.isPrivate(modifiers) ? 0 : 1;
    }
}
