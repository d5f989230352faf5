import java.io.IOException;
import java.nio.file.Files;
import java.nio.file.Path;
import java.util.List;
import java.util.regex.Matcher;
import java.util.regex.Pattern;

/** The rules of LANGUAGE.md that can be seen in the text of the class; FaceTest sees rule 1. */
public final class LanguageTest {
    private static final Path SOURCE = Path.of("src/main/java/SealedSectors.java");
    private static final int LONGEST_METHOD = 60;
    private static final Check check = new Check();

    public static void main(String[] args) throws IOException {
        String code = withoutComments(Files.readString(SOURCE));
        check.due("length of the code is seen", code.length() > 1000, true);
        absent(code, "\\b(package|import|extends|implements)\\b", "no package line, no library");
        absent(code, "\\b(throw|throws|try|catch|finally|synchronized|assert)\\b", "6");
        absent(code, "->|::|\\bnew\\s+\\w+\\s*\\(", "2: no lambda, method reference or object of another class");
        absent(code, "\\bstatic\\s*\\{", "5: no static initialiser block");
        absent(code, "\\bstatic\\s+(?!final\\b)\\w+\\s+\\w+\\s*[=;]", "5: static fields are final");
        absent(code, "\\b(System|Math|Thread|Runtime|Object|Class)\\s*\\.", "4 and 13");
        absent(code, "[/%]\\s*(?!2\\b)\\S", "7: no divisor that may be 0");
        absent(code, "\\b(double|float|String)\\b", "no such type is needed");
        methodsStayShort(code);
        check.end();
    }

    private static String withoutComments(String text) {
        return text.replaceAll("(?s)/\\*.*?\\*/", "").replaceAll("//[^\\n]*", "");
    }

    private static void absent(String code, String form, String rule) {
        Matcher found = Pattern.compile(form).matcher(code);
        boolean there = found.find();
        check.due("rule " + rule + (there ? ": '" + found.group() + "'" : ""), there, false);
    }

    private static void methodsStayShort(String code) {
        List<String> lines = code.lines().toList();
        int methods = 0;
        int begin = -1;
        for (int i = 0; i < lines.size(); i++) {
            String line = lines.get(i);
            if (line.matches(" {4}(public|private)\\b.*\\) \\{")) {
                begin = i;
                methods++;
                Matcher parameters = Pattern.compile("\\((.*)\\)").matcher(line);
                check.due("parameters:" + line, parameters.find()
                        && parameters.group(1).split(",").length <= 7, true);
            } else if (line.equals("    }") && begin >= 0) {
                check.due("rule 11: short:" + lines.get(begin), i - begin < LONGEST_METHOD, true);
                begin = -1;
            }
        }
        check.due("the methods are seen", methods >= 14, true);
    }
}
