import java.io.IOException;
import java.nio.file.Files;
import java.nio.file.Path;
import java.util.List;
import java.util.regex.Matcher;
import java.util.regex.Pattern;

/** What can be seen of LANGUAGE.md's rules in the text of the program; .ci/run starts it in the project's folder. */
public final class LanguageTest {
    private static final String[] RULED_OUT = {
        "\\bpackage\\b", "->", "::", "\\bfinally\\b", "\\bsynchronized\\b", "\\bassert\\b", "\\bvolatile\\b",
        "\\bnative\\b", "\\bDouble\\b", "\\bFloat\\b", "\\bObject\\b", "\\bSystem\\.(?!arraycopy)", "\\bThread\\b",
        "\\bRandom\\b", "\\bClass\\b", "\\bprotected\\b", "Exact\\(", "\\.hashCode\\(", "\\.toString\\(",
        "\\bextends\\s+\\w*Exception", "\\bcatch\\b", "\\?\\s*>", "\\bvar\\b",
        "\\bnew\\s+(ArrayIndexOutOfBounds|NullPointer|ClassCast|NegativeArraySize|ArrayStore)",
        "\\bMath\\.(?!(min|max|abs|floorMod|floorDiv)\\()", "\\bstatic\\s+\\{",
    };
    private static final List<String> IMPORTS = List.of("java.util.ArrayList", "java.util.Arrays", "java.util.List");
    private static final int LONGEST_METHOD = 60;
    private static final Check check = new Check();

    public static void main(String[] args) throws IOException {
        String text = Files.readString(Path.of("src/main/java/Transitry.java"));
        String code = withoutCommentsAndTexts(text);
        for (String each : RULED_OUT) {
            Matcher matcher = Pattern.compile(each).matcher(code);
            check.dueText("found of " + each, matcher.find() ? matcher.group() : "", "");
        }
        Matcher imports = Pattern.compile("\\bimport\\s+([\\w.*]+);").matcher(code);
        while (imports.find()) {
            check.due("import of " + imports.group(1), IMPORTS.contains(imports.group(1)), true);
        }
        methodsAreShort(code);
        check.end();
    }

    private static String withoutCommentsAndTexts(String text) {
        return text.replaceAll("(?s)/\\*.*?\\*/", "").replaceAll("//[^\n]*", "").replaceAll("\"[^\"\n]*\"", "\"\"");
    }

    /** A method begins with a line that opens a brace behind a parenthesis, and ends with a brace as deep as that. */
    private static void methodsAreShort(String code) {
        String[] lines = code.split("\n");
        for (int i = 0; i < lines.length; i++) {
            String line = lines[i];
            boolean opens = line.matches("\\s{4,8}[\\w<>\\[\\] ]+\\([^)]*\\).*") && !line.endsWith(";");
            if (opens && !line.trim().matches("(if|for|while|switch|else).*")) {
                String end = line.replaceAll("\\S.*", "") + "}";
                int last = i;
                while (last < lines.length - 1 && !lines[last].equals(end)) {
                    last++;
                }
                check.due("a short method: " + line.trim(), last - i <= LONGEST_METHOD, true);
            }
        }
    }
}
