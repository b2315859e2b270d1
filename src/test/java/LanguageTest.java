import java.nio.charset.StandardCharsets;
import java.nio.file.Files;
import java.nio.file.Path;
import java.util.regex.Matcher;
import java.util.regex.Pattern;

/** Those rules of LANGUAGE.md that can be seen in the text of the class; its path is the argument. */
public final class LanguageTest {
    private static final Answers A = new Answers("LanguageTest");
    private static final int MOST_LINES = 60;

    public static void main(String[] args) throws Exception {
        String source = new String(Files.readAllBytes(Path.of(args[0])), StandardCharsets.UTF_8);
        A.dueTrue("all signs are 1 to 127", source.chars().allMatch(c -> c > 0 && c < 128));
        String code = withoutComments(source);
        String[] words = {"throw", "throws", "try", "catch", "finally", "synchronized", "assert", "import", "package",
            "native", "volatile", "transient", "strictfp", "yield", "sealed", "permits", "protected", "var", "Object", "Thread",
            "equals", "hashCode", "toString", "System\\.(?!arraycopy)\\w+", "\\w+Exact", "while\\s*\\(\\s*true", "for\\s*\\(\\s*;\\s*;"};
        for (String word : words) {
            Matcher m = Pattern.compile("\\b" + word + "\\b").matcher(code);
            A.dueTrue("no " + word, !m.find());
        }
        for (String sign : new String[] {"->", "::", "@", "\"\"\""}) {
            A.dueTrue("no " + sign, !code.contains(sign));
        }
        A.dueTrue("no static block", !Pattern.compile("static\\s*\\{").matcher(code).find());
        A.dueTrue("no static state", !Pattern.compile("\\bstatic\\s+(?!final\\b)[\\w\\[\\]]+\\s+\\w+\\s*[=;]").matcher(code).find());
        A.dueTrue("every class inside is static", count(code, "\\bclass\\s+\\w+") == 1 + count(code, "\\bstatic (?:final )?class\\s+\\w+"));
        A.dueTrue("some twelve classes", count(code, "\\b(?:class|enum|interface|record)\\s+\\w+") <= 12);
        methodsAreShort(code);
        A.end();
    }

    private static String withoutComments(String source) {
        return source.replaceAll("(?s)/\\*.*?\\*/", "").replaceAll("//[^\n]*", "");
    }

    private static int count(String code, String what) {
        Matcher m = Pattern.compile(what).matcher(code);
        int n = 0;
        while (m.find()) {
            n++;
        }
        return n;
    }

    private static void methodsAreShort(String code) {
        Matcher m = Pattern.compile("(?m)^( {4}| {8})(?:public |private |static |final )*[\\w\\[\\]]+ ?\\w*\\(([^)]*)\\) \\{$").matcher(code);
        int methods = 0;
        while (m.find()) {
            methods++;
            int end = code.indexOf("\n" + m.group(1) + "}", m.end());
            A.dueTrue("it ends", end > 0);
            long lines = code.substring(m.start(), Math.max(end, m.start())).lines().count();
            A.dueTrue("some sixty lines: " + m.group().trim(), lines <= MOST_LINES);
            A.dueTrue("at most seven parameters: " + m.group().trim(), m.group(2).split(",").length <= 7);
        }
        A.dueTrue("methods were found: " + methods, methods > 60);
    }
}
