import java.nio.file.Files;
import java.nio.file.Path;
import java.util.regex.Matcher;
import java.util.regex.Pattern;

/** Rules of ../shared/LANGUAGE.md that can be seen in the text of the program. */
public final class LanguageTest {
    private static final String[] BARRED = {
        "\\b(throw|throws|try|catch|finally|synchronized|assert|import|package)\\b",
        "->", "::", "\\bObject\\b", "\\bSystem\\.(?!arraycopy)", "Exact\\(", "\"",
        "\\b(public|protected)\\b(?! (final class ViewBroadcast|static final int UNKNOWN|ViewBroadcast\\(|int [a-z]+\\())"};

    public static void main(String[] args) throws Exception {
        Due due = new Due("LanguageTest");
        String text = Files.readString(Path.of("src/main/java/ViewBroadcast.java"));
        String code = text.replaceAll("(?s)/\\*.*?\\*/", "").replaceAll("//[^\n]*", "");
        for (String barred : BARRED) {
            Matcher m = Pattern.compile(barred).matcher(code);
            while (m.find()) {
                due.due("'" + m.group() + "' in the program", 1, 0);
            }
        }
        due.due("signs beyond 126", text.chars().anyMatch(c -> c > 126) ? 1 : 0, 0);
        int classes = code.split("\\bclass\\b").length - 1;
        due.due("more than 12 classes", classes > 12 ? classes : 0, 0);
        due.end();
    }
}
