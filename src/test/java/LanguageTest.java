import java.io.IOException;
import java.nio.file.Files;
import java.nio.file.Path;
import java.util.List;
import java.util.regex.Matcher;
import java.util.regex.Pattern;

/** Those rules of LANGUAGE.md that can be seen in the lines of the class's file; run from the project's folder. */
public final class LanguageTest {

    private static final Path FILE = Path.of("src/main/java/BiteFirst.java");
    private static final String[] RULED_OUT = {
        "\\bthrows?\\b", "\\btry\\b", "\\bcatch\\b", "\\bfinally\\b", "\\bsynchronized\\b", "\\bassert\\b",
        "\\bimport\\b", "\\bpackage\\b", "->", "::", "\\bprotected\\b", "\\bdouble\\b", "\\bfloat\\b",
        "\\bthread\\b", "\\bvolatile\\b", "\\bnative\\b", "\\bvar\\b", "Exact\\(", "@", "\\bhashCode\\b",
        "\\bequals\\b", "\\btoString\\b", "\\bObject\\b", "\\.class\\b", "\\byield\\b",
        "System\\.(?!arraycopy)",
    };

    public static void main(String[] args) throws IOException {
        String all = Files.readString(FILE);
        String code = all.replaceAll("(?s)/\\*.*?\\*/", "").replaceAll("//[^\n]*", "").replaceAll("\"[^\"]*\"", "\"\"");
        for (String out : RULED_OUT) {
            Matcher found = Pattern.compile(out).matcher(code);
            boolean any = found.find();
            Due.isTrue("no " + out + (any ? " but '" + code.substring(found.start(), found.end() + 20) + "'" : ""), !any);
        }
        for (char c : all.toCharArray()) {
            if (c > 126 || c < 32 && c != '\n') {
                Due.is("plain signs alone", c, ' ');
            }
        }
        methodsAreShort(List.of(code.split("\n")));
        Due.end("LanguageTest");
    }

    private static void methodsAreShort(List<String> lines) {
        Pattern head = Pattern.compile("^ {4}( {4})?[a-zA-Z].*\\) \\{$");
        int methods = 0;
        for (int k = 0; k < lines.size(); k++) {
            String line = lines.get(k);
            if (head.matcher(line).matches()) {
                String end = line.replaceAll("\\S.*", "") + "}";
                int n = 1;
                while (!lines.get(k + n).equals(end)) {
                    n++;
                }
                methods++;
                Due.isTrue("at most 60 lines: " + line, n < 60);
            }
        }
        Due.isTrue("methods were found", methods > 60);
    }
}
