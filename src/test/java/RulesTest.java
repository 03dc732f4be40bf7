import java.io.IOException;
import java.nio.file.Files;
import java.nio.file.Path;
import java.util.ArrayList;
import java.util.HashSet;
import java.util.List;
import java.util.Set;
import java.util.regex.Matcher;
import java.util.regex.Pattern;

/** The rules of ../shared/LANGUAGE.md, as far as the source's text shows them. */
public final class RulesTest {
    private static final Path SOURCE = Path.of("src/main/java/VersionSearch.java");
    private static final String[] FORBIDDEN = {
        "\\bthrow\\b", "\\btry\\b", "\\bcatch\\b", "\\bsynchronized\\b", "\\bassert\\b", "->", "::", "\\bimport\\b", "\\bpackage\\b",
        "\\bstatic\\s*\\{", "Exact\\(", "\\bSystem\\.(?!arraycopy)", "\\bObject\\b", "\\bprotected\\b", "\\bvar\\b", "\"\\s*\\+|\\+\\s*\"",
        "\\bwhile\\s*\\(true\\)", "\\bequals\\(", "\\bhashCode\\(", "\\btoString\\(",
        "\\b(String|Math|Integer|Long)\\.(?!(min|max|abs|bitCount)\\()"};

    private RulesTest() {
    }

    public static void main(String[] args) throws IOException {
        String source = withoutComments(Files.readString(SOURCE));
        for (String pattern : FORBIDDEN) {
            Matcher matcher = Pattern.compile(pattern).matcher(source);
            while (matcher.find()) {
                Due.is("forbidden: " + lineOf(source, matcher.start()), 1, 0);
            }
        }
        signsArePlain(source);
        classesAreFew(source);
        methodsAreShort(source);
        Due.finish("RulesTest");
    }

    private static String withoutComments(String source) {
        return source.replaceAll("(?s)/\\*.*?\\*/", "").replaceAll("//[^\n]*", "");
    }

    private static String lineOf(String source, int at) {
        int from = source.lastIndexOf('\n', at) + 1;
        int to = source.indexOf('\n', at);
        return source.substring(from, to < 0 ? source.length() : to).strip();
    }

    private static void signsArePlain(String source) {
        for (char sign : source.toCharArray()) {
            if (sign > 127) {
                Due.is("sign " + (int) sign, 1, 0);
            }
        }
    }

    private static void classesAreFew(String source) {
        int classes = 0;
        Matcher matcher = Pattern.compile("(?m)^( *)(.*)\\bclass (\\w+)").matcher(source);
        while (matcher.find()) {
            classes++;
            String want = classes == 1 ? "public final " : "private static final ";
            Due.is("class " + matcher.group(3), matcher.group(2).equals(want), true);
        }
        Due.is("at most twelve classes", classes <= 12, true);
    }

    /** Looks at every method: how long it is, how many parameters it has, whether a private one bears a public one's name. */
    private static void methodsAreShort(String source) {
        Pattern head = Pattern.compile("(?m)^( {4}| {8})((?:public |private )?(?:static )?(?:[\\w\\[\\]]+ )?)(\\w+)\\(([^)]*)\\) \\{$");
        Matcher matcher = head.matcher(source);
        Set<String> open = new HashSet<>();
        List<String> own = new ArrayList<>();
        int methods = 0;
        while (matcher.find()) {
            methods++;
            String name = matcher.group(3);
            int to = source.indexOf("\n" + matcher.group(1) + "}", matcher.start());
            long lines = source.substring(matcher.start(), to).lines().count() + 1;
            Due.is(name + " has at most 60 lines", lines <= 60, true);
            Due.is(name + " takes at most seven", matcher.group(4).split(",").length <= 7, true);
            if (matcher.group(2).startsWith("public")) {
                open.add(name);
            } else {
                own.add(name);
            }
        }
        Due.is("public methods and the constructor", open.size(), 25);
        Due.is("methods are found", methods > 100, true);
        for (String name : own) {
            Due.is("own method " + name + " bears a public one's name", open.contains(name), false);
        }
    }
}
