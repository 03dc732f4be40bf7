import java.io.IOException;
import java.io.PrintWriter;
import java.io.StringWriter;
import java.lang.reflect.Field;
import java.lang.reflect.Method;
import java.lang.reflect.Modifier;
import java.nio.file.Files;
import java.nio.file.Path;
import java.util.ArrayList;
import java.util.HashMap;
import java.util.HashSet;
import java.util.List;
import java.util.Map;
import java.util.Set;
import java.util.TreeMap;
import java.util.TreeSet;
import java.util.regex.Matcher;
import java.util.regex.Pattern;
import java.util.spi.ToolProvider;

/** The rules of ../shared/LANGUAGE.md, as far as the source's text and the compiled class show them: just what they say, and no more. */
public final class RulesTest {
    private static final Path SOURCE = Path.of("src/main/java/VersionSearch.java");
    private static final String[] FORBIDDEN = {
        "\\bthrow\\b", "\\btry\\b", "\\bcatch\\b", "\\bsynchronized\\b", "\\bassert\\b", "::", "\\bpackage\\b", "\\bstatic\\s*\\{",
        "(?m)^(?!\\s*(case|default)\\b).*->", "\\bnew \\w+(<\\w*>)?\\([^()]*\\)\\s*\\{", "\\bObject\\b", "\\bhashCode\\(", "\"\\s*\\+|\\+\\s*\"",
        "\\bwhile\\s*\\(true\\)", "\\bimport (?!java\\.util\\.(ArrayList|List|Arrays|Iterator);)"};
    /** What may be used of the library; what an enum, a list's loop and an Integer in a list bring along is counted in. */
    private static final Pattern LIBRARY = Pattern.compile("java/lang/Object\\.<init>"
            + "|java/lang/String\\.(length|charAt|isEmpty|equals|indexOf|substring|toCharArray|<init>)"
            + "|java/lang/StringBuilder\\.(<init>|append|charAt|setCharAt|setLength|deleteCharAt|reverse|length|toString)"
            + "|java/util/(ArrayList|List)\\.(<init>|add|get|set|remove|size|isEmpty|clear|iterator|of)"
            + "|java/lang/(Integer|Long|Math)\\.(?!random|parse|toString|decode|get)\\w*(?<!Exact)"
            + "|java/util/Iterator\\.(hasNext|next)|java/lang/Iterable\\.iterator|java/lang/Comparable\\.compareTo"
            + "|java/lang/System\\.arraycopy|java/util/Arrays\\.(copyOf|copyOfRange|fill)|\\[.*\\.clone"
            + "|java/lang/Enum\\.\\w+|java/lang/Record\\.<init>");
    private static final int PARAMETERS = 7;
    private static final int DEEP = 8;
    /** Of these the rules say 'some': sixty lines, twelve classes, twenty fields. */
    private static final int LINES = 65;
    private static final int CLASSES = 13;
    private static final int FIELDS = 22;

    private RulesTest() {
    }

    public static void main(String[] args) throws IOException {
        String source = withoutComments(Files.readString(SOURCE));
        textIsPlain(source);
        methodsAreShort(source);
        List<Class<?>> classes = new ArrayList<>();
        addClasses(VersionSearch.class, classes);
        Due.sentence("the file has at most some twelve classes");
        Due.is("classes: " + classes.size(), classes.size() <= CLASSES, true);
        classes.forEach(RulesTest::fieldsAreFew);
        classes.forEach(RulesTest::methodsAreOfTheirOwn);
        if (ToolProvider.findFirst("javap").isPresent()) {
            callsAreFewDeep(classes);
        } else {
            System.out.println("RulesTest: without javap, calls are not looked at");
        }
        Due.finish("RulesTest");
    }

    private static String withoutComments(String source) {
        return source.replaceAll("(?s)/\\*.*?\\*/", "").replaceAll("//[^\n]*", "");
    }

    private static void textIsPlain(String source) {
        for (String pattern : FORBIDDEN) {
            Due.sentence("forbidden: " + pattern);
            Matcher matcher = Pattern.compile(pattern).matcher(source);
            while (matcher.find()) {
                Due.is(lineOf(source, matcher.start()), 1, 0);
            }
        }
        Due.sentence("constants, whose signs are 1 to 127");
        for (char sign : source.toCharArray()) {
            Due.is("sign " + (int) sign, sign >= 1 && sign <= 127, true);
        }
    }

    private static String lineOf(String source, int at) {
        int from = source.lastIndexOf('\n', at) + 1;
        int to = source.indexOf('\n', at);
        return source.substring(from, to < 0 ? source.length() : to).strip();
    }

    private static void methodsAreShort(String source) {
        Due.sentence("Methods stay short (some sixty lines)");
        Matcher matcher = Pattern.compile("(?m)^( {4}| {8})(?! )[^;={}]*?(\\w+)\\([^()]*\\) \\{$").matcher(source);
        while (matcher.find()) {
            int to = source.indexOf("\n" + matcher.group(1) + "}", matcher.start());
            long lines = source.substring(matcher.start(), Math.max(matcher.start(), to)).lines().count() + 1;
            Due.is(matcher.group(2) + " has " + lines + " lines", lines <= LINES, true);
        }
    }

    private static void addClasses(Class<?> one, List<Class<?>> classes) {
        classes.add(one);
        for (Class<?> inside : one.getDeclaredClasses()) {
            addClasses(inside, classes);
        }
    }

    private static void fieldsAreFew(Class<?> one) {
        int own = 0;
        for (Field field : one.getDeclaredFields()) {
            boolean shared = Modifier.isStatic(field.getModifiers());
            own += shared ? 0 : 1;
            Due.sentence("Static fields are final");
            Due.is(one.getName() + "." + field.getName(), !shared || Modifier.isFinal(field.getModifiers()), true);
        }
        Due.sentence("a class some twenty fields beside its constants");
        Due.is(one.getName() + " has " + own, own <= FIELDS, true);
    }

    private static void methodsAreOfTheirOwn(Class<?> one) {
        Set<String> open = new HashSet<>();
        for (Method method : VersionSearch.class.getDeclaredMethods()) {
            if (Modifier.isPublic(method.getModifiers())) {
                open.add(method.getName());
            }
        }
        for (Method method : one.getDeclaredMethods()) {
            String name = one.getName() + "." + method.getName();
            Due.sentence("No private method bears the name of a public one");
            Due.is(name, Modifier.isPrivate(method.getModifiers()) && open.contains(method.getName()), false);
            Due.sentence("A method takes at most seven parameters");
            Due.is(name, method.getParameterCount() <= PARAMETERS, true);
        }
    }

    /** Which method calls which, and what of the library, as javap tells it. */
    private static Map<String, Set<String>> calls(List<Class<?>> classes) {
        List<String> words = new ArrayList<>(List.of("-p", "-c", "-cp", System.getProperty("java.class.path")));
        classes.forEach(one -> words.add(one.getName()));
        StringWriter told = new StringWriter();
        ToolProvider.findFirst("javap").orElseThrow().run(new PrintWriter(told), new PrintWriter(told), words.toArray(new String[0]));
        Pattern head = Pattern.compile("^  (?! )(?:.* )?([\\w$]+)\\(.*\\);$");
        Pattern call = Pattern.compile("// (?:Interface)?Method (?:\"?([\\w$/\\[;]+)\"?\\.)?\"?([\\w<>]+)\"?:");
        Map<String, Set<String>> calls = new TreeMap<>();
        String name = "";
        String method = "";
        for (String line : told.toString().lines().toList()) {
            Matcher begins = head.matcher(line);
            Matcher goes = call.matcher(line);
            if (line.endsWith("{") && !line.startsWith(" ")) {
                name = line.replaceAll(".*?(?:class|interface) ([\\w$]+).*", "$1");
            } else if (line.equals("  static {};")) {
                method = name + ".<clinit>";
            } else if (begins.matches()) {
                method = name + "." + (begins.group(1).equals(name) ? "<init>" : begins.group(1));
            } else if (goes.find()) {
                String owner = goes.group(1) == null ? name : goes.group(1);
                calls.computeIfAbsent(method, any -> new TreeSet<>()).add(owner + "." + goes.group(2));
            }
        }
        return calls;
    }

    private static void callsAreFewDeep(List<Class<?>> classes) {
        Map<String, Set<String>> calls = calls(classes);
        Map<String, Integer> depths = new HashMap<>();
        Due.is("javap tells calls", calls.containsKey("VersionSearch.text"), true);
        for (Map.Entry<String, Set<String>> entry : calls.entrySet()) {
            Due.sentence("calls that are no recursion go at most eight deep");
            int deep = depth(entry.getKey(), calls, depths, new HashSet<>());
            Due.is(entry.getKey() + " goes " + deep + " deep", deep <= DEEP, true);
            Due.sentence("The library: only what stands here");
            for (String callee : entry.getValue()) {
                boolean own = callee.startsWith("VersionSearch");
                Due.is(entry.getKey() + " calls " + callee, own || LIBRARY.matcher(callee).matches(), true);
            }
        }
    }

    /** How many calls of the class's own stand open below a method; a call of what is open already is a recursion, and not counted. */
    private static int depth(String method, Map<String, Set<String>> calls, Map<String, Integer> depths, Set<String> open) {
        if (depths.containsKey(method)) {
            return depths.get(method);
        }
        open.add(method);
        int deepest = 0;
        for (String callee : calls.getOrDefault(method, Set.of())) {
            if (callee.startsWith("VersionSearch") && !open.contains(callee)) {
                deepest = Math.max(deepest, 1 + depth(callee, calls, depths, open));
            }
        }
        open.remove(method);
        depths.put(method, deepest);
        return deepest;
    }
}
