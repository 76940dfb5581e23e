import java.io.IOException;
import java.nio.file.Files;
import java.nio.file.Path;
import java.util.regex.Matcher;
import java.util.regex.Pattern;

/** Such rules of LANGUAGE.md as can be seen from the text of the class; and its face. */
public final class LanguageTest {
    private static final String FACE = "feed end family law fault person lent weighs gap say bear wed part lend use govern stern days would"
            + " fewest first can harsh kind cradle again over said ask match mate stable runs owes net ring rich rests mild branch senior"
            + " kin cousins under free odds twins mean oldest youngest crib spread ahead trial span led log seed undo image back count";

    private static int count(String text, String pattern) {
        Matcher m = Pattern.compile(pattern).matcher(text);
        int n = 0;
        while (m.find()) n++;
        return n;
    }

    private static void none(String text, String pattern) {
        Check.due("'" + pattern + "' in the class", count(text, pattern), 0);
    }

    private static void methods(String text) {
        int begin = 0;
        int line = 0;
        String name = "";
        for (String s : text.split("\n")) {
            line++;
            Matcher m = Pattern.compile("^ {4,8}(?!class|return|if|for|switch|static final class)[\\w<>\\[\\], ]*?(\\w+)\\(([^()]*)\\).*\\{$").matcher(s);
            if (m.matches() && !s.contains(" class ") && begin == 0) {
                begin = line;
                name = m.group(1);
                Check.due("parameters of " + name, m.group(2).isBlank() || count(m.group(2), ",") < 7, true);
            }
            if (begin > 0 && s.matches(" {4}( {4})?\\}") && s.length() - s.trim().length() == text.split("\n")[begin - 1].indexOf(text.split("\n")[begin - 1].trim())) {
                Check.due("lines of " + name + ": " + (line - begin + 1), line - begin < 60, true);
                begin = 0;
            }
        }
    }

    public static void main(String[] args) throws IOException {
        String text = Files.readString(Path.of("src/main/java/CribLine.java"));
        String code = text.replaceAll("//[^\n]*", "").replaceAll("\"[^\"\n]*\"", "TEXT");
        for (String banned : new String[] {"->", "::", "\\btry\\b", "\\bcatch\\b", "\\bfinally\\b", "\\bassert\\b", "\\bsynchronized\\b",
                "Exact\\(", "\\blambda\\b", "\\brecord\\b", "\\bvar\\b", "static \\{", "TEXT *\\+", "\\+ *TEXT", "\\bdouble\\b", "\\bfloat\\b",
                "\\bprotected\\b", "\\bpackage\\b", "System\\.(?!arraycopy)", "Math\\.(?!max|min)", "\\bnull\\b", "String\\.format",
                "\\binstanceof\\b", "\\bwhile\\b", "static final \\w+\\[\\]", "\\bhashCode\\b", "\\btoString\\b"}) {
            none(code, banned);
        }
        Check.due("imports", count(code, "(?m)^import (?!java\\.util\\.(Arrays|NoSuchElementException);)"), 0);
        Check.due("signs are 1 to 127", count(text, "[^\\x01-\\x7f]"), 0);
        Check.due("classes", count(code, "\\bclass \\w+") <= 12, true);
        int publics = 0;
        for (String name : FACE.split(" ")) {
            publics++;
            Check.due("methods of the name " + name, count(code, "(?m)^ {4,8}(?!return|public)[\\w\\[\\]]+( [\\w\\[\\]]+)* " + name + "\\("), 0);
            Check.due("public " + name, count(code, "(?m)^ {4}public \\w+ " + name + "\\("), 1);
        }
        Check.due("public members: the face, the constructor, NONE, the class", count(code, "\\bpublic\\b"), publics + 3);
        methods(text);
        Check.close("LanguageTest");
    }
}
