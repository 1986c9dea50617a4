import java.io.IOException;
import java.lang.reflect.Constructor;
import java.lang.reflect.Field;
import java.lang.reflect.Method;
import java.lang.reflect.Modifier;
import java.nio.charset.StandardCharsets;
import java.nio.file.Files;
import java.nio.file.Path;
import java.util.Arrays;
import java.util.Map;
import java.util.Set;
import java.util.TreeMap;
import java.util.TreeSet;
import java.util.regex.Matcher;
import java.util.regex.Pattern;

/** The rules of LANGUAGE.md that can be seen from the source and the face of the class. */
public final class LanguageTests {
    private static final String[] FACE = {
        "int feed(int)", "int cellar()", "int bottleOf(int,int)", "int at(int)", "int bottle(int,int,int)", "int feeds(int,int)",
        "int outs(int)", "int towels(int)", "int days(int)", "int back()", "int pressIn(int,int)", "int then(int,int)",
        "int goes(int)", "int quiet()", "int takes(int)", "int worst(int)", "int safe(int,int)", "int towel(int)",
        "int spoon(int,int)", "int out(int)", "int ready(int,int,int)", "int feedFor(int,int)", "int move(int)", "int halved()",
        "int whoWent()", "int whatKind(int,int)", "int two(int,int,int)", "long thunders(int,int,int,int)", "int shares(int,int)",
        "int tightest(int)", "int near(int)", "long mean(int)", "int spare(int)", "int pairs(int)", "int eased(int,int,int)",
        "int officers(int)", "int row(int)", "int judge()", "int clear()", "int lots(int,int,int)", "int image()",
        "int restore()", "int count(int)"};
    private static final String[] FORBIDDEN_WORDS = {
        "throw", "throws", "try", "catch", "finally", "synchronized", "assert", "import", "package", "equals", "hashCode",
        "toString", "native", "volatile", "transient", "lambda", "var", "yield", "Object", "Exception", "Random", "Thread"};
    private static final String[] LIBRARY = {"Integer.bitCount", "Math.abs", "Math.max", "Math.min", "System.arraycopy"};
    private static final int LONGEST_METHOD = 60;
    private static final int MOST_PARAMETERS = 7;
    private static final int MOST_FIELDS = 20;
    private static final int MOST_CLASSES = 12;
    private static final int DEEPEST_CALLS = 8;
    private static final Pattern METHOD_HEAD = Pattern.compile(
        "^( {4}| {8})\\w[\\w\\[\\] ]* (\\w+)\\(.*\\) \\{$|^( {4}| {8})(?:public )?(\\w+)\\(\\) \\{$");

    private LanguageTests() {
    }

    public static void main(String[] args) throws IOException {
        Path path = Path.of(args.length > 0 ? args[0] : "src/main/java/GingerArmy.java");
        String source = Files.readString(path, StandardCharsets.ISO_8859_1);
        theFace();
        theClasses();
        theWords(withoutComments(source));
        theMethodsLengths(source);
        theDepth(source);
        theRoom(withoutComments(source));
        Check.close();
    }

    private static void theFace() {
        Class<?> c = GingerArmy.class;
        Check.holds("the class is public and final", Modifier.isPublic(c.getModifiers()) && Modifier.isFinal(c.getModifiers()));
        Constructor<?>[] constructors = c.getDeclaredConstructors();
        Check.holds("one public constructor without arguments", constructors.length == 1
            && Modifier.isPublic(constructors[0].getModifiers()) && constructors[0].getParameterCount() == 0);
        Set<String> found = new TreeSet<>();
        Set<String> faceNames = new TreeSet<>();
        for (Method m : c.getDeclaredMethods()) {
            if (Modifier.isPrivate(m.getModifiers())) continue;
            faceNames.add(m.getName());
            StringBuilder row = new StringBuilder(m.getReturnType() + " " + m.getName() + "(");
            for (int i = 0; i < m.getParameterCount(); i++) {
                row.append(i == 0 ? "" : ",").append(m.getParameterTypes()[i]);
            }
            found.add(row.append(")").toString());
            Check.holds(m + " is public and of the object", m.getModifiers() == Modifier.PUBLIC);
        }
        Check.holds("the face is the document's: " + found, found.equals(new TreeSet<>(Arrays.asList(FACE))));
        for (Field f : c.getDeclaredFields()) {
            Check.holds(f + " is private", Modifier.isPrivate(f.getModifiers()));
        }
        noNameTwice(c, faceNames);
        for (Class<?> inner : c.getDeclaredClasses()) {
            noNameTwice(inner, faceNames);
        }
    }

    private static void noNameTwice(Class<?> c, Set<String> faceNames) {
        for (Method m : c.getDeclaredMethods()) {
            boolean ofTheFace = c == GingerArmy.class && Modifier.isPublic(m.getModifiers());
            Check.holds(m + " bears a name of its own", ofTheFace || !faceNames.contains(m.getName()));
        }
    }

    private static void theClasses() {
        Class<?>[] inner = GingerArmy.class.getDeclaredClasses();
        Check.holds("few classes", inner.length + 1 <= MOST_CLASSES);
        for (Class<?> c : inner) {
            int flags = c.getModifiers();
            Check.holds(c + " is static, and private or package-visible",
                Modifier.isStatic(flags) && !Modifier.isPublic(flags) && !Modifier.isProtected(flags));
            theMembers(c);
            Check.holds(c + " has no class inside", c.getDeclaredClasses().length == 0);
        }
        theMembers(GingerArmy.class);
    }

    private static void theMembers(Class<?> c) {
        int fields = 0;
        for (Field f : c.getDeclaredFields()) {
            boolean isStatic = Modifier.isStatic(f.getModifiers());
            if (!isStatic) fields++;
            Check.holds(f + " is final if static", !isStatic || Modifier.isFinal(f.getModifiers()));
        }
        Check.holds(c + " has few fields: " + fields, fields <= MOST_FIELDS);
        for (Method m : c.getDeclaredMethods()) {
            Check.holds(m + " has few parameters", m.getParameterCount() <= MOST_PARAMETERS);
        }
    }

    private static String withoutComments(String source) {
        return source.replaceAll("(?s)/\\*.*?\\*/", " ").replaceAll("//[^\n]*", " ");
    }

    private static void theWords(String code) {
        for (String word : FORBIDDEN_WORDS) {
            Check.holds("no word '" + word + "'", !Pattern.compile("\\b" + word + "\\b").matcher(code).find());
        }
        Check.holds("no lambda and no method reference", !code.contains("->") && !code.contains("::"));
        Check.holds("no text", code.indexOf('"') < 0);
        Check.holds("no static block", !Pattern.compile("static\\s*\\{").matcher(code).find());
        Check.holds("no loop without a bound", !Pattern.compile("\\b(while|do)\\b|for\\s*\\(\\s*;").matcher(code).find());
        Set<String> library = new TreeSet<>();
        Matcher m = Pattern.compile("\\b(Integer|Long|Math|System|Arrays|String|StringBuilder|List|ArrayList)\\.\\w+").matcher(code);
        while (m.find()) {
            library.add(m.group());
        }
        library.removeAll(Set.of(LIBRARY));
        Check.holds("the listed library alone, but " + library, library.isEmpty());
        boolean plain = true;
        for (int i = 0; i < code.length(); i++) {
            plain &= code.charAt(i) == '\n' || code.charAt(i) >= ' ' && code.charAt(i) <= '~';
        }
        Check.holds("plain signs alone", plain);
    }

    private static void theMethodsLengths(String source) {
        String[] lines = source.split("\n");
        int methods = 0;
        for (int from = 0; from < lines.length; from++) {
            if (!METHOD_HEAD.matcher(lines[from]).matches()) continue;
            methods++;
            int long_ = endOfMethod(lines, from) - from + 1;
            Check.holds("a short method: " + lines[from].trim() + " " + long_, long_ <= LONGEST_METHOD);
        }
        Check.holds("the methods are seen: " + methods, methods >= FACE.length);
    }

    private static int endOfMethod(String[] lines, int from) {
        String end = (lines[from].startsWith("        ") ? "        " : "    ") + "}";
        int to = from;
        while (to < lines.length - 1 && !lines[to].equals(end)) {
            to++;
        }
        return to;
    }

    /** How deep calls stand, methods of one name in two classes taken as one that makes all the calls of both. */
    private static void theDepth(String source) {
        String[] lines = source.split("\n");
        Map<String, Set<String>> calls = new TreeMap<>();
        for (int from = 0; from < lines.length; from++) {
            Matcher m = METHOD_HEAD.matcher(lines[from]);
            if (!m.matches()) continue;
            String name = m.group(2) != null ? m.group(2) : m.group(4);
            String body = String.join("\n", Arrays.copyOfRange(lines, from + 1, endOfMethod(lines, from) + 1));
            Set<String> called = calls.computeIfAbsent(name, key -> new TreeSet<>());
            Matcher word = Pattern.compile("\\b(\\w+)\\(").matcher(withoutComments(body));
            while (word.find()) {
                called.add(word.group(1));
            }
        }
        int deepest = 0;
        for (String name : calls.keySet()) {
            deepest = Math.max(deepest, depth(name, calls, 1));
        }
        Check.holds("no recursion, and calls at most " + DEEPEST_CALLS + " deep: " + deepest, deepest <= DEEPEST_CALLS);
        Check.holds("the calls are followed: " + deepest, deepest > DEEPEST_CALLS / 2);
    }

    private static int depth(String name, Map<String, Set<String>> calls, int level) {
        int deepest = level;
        // A ring of calls is told as deep as that.
        if (level > 2 * DEEPEST_CALLS) return deepest;
        for (String called : calls.get(name)) {
            if (calls.containsKey(called)) deepest = Math.max(deepest, depth(called, calls, level + 1));
        }
        return deepest;
    }

    /** Rows and shelves are made with the object alone, so no call makes any. */
    private static void theRoom(String code) {
        String held = "(private|static) [\\w\\[\\] ]*= new \\w+[\\[(]";
        int all = countOf("\\bnew\\b", code);
        int fields = countOf(held, code);
        int slots = countOf("shelves\\[i\\] = new Shelf\\(\\);", code);
        Check.due("what is made outside fields and the constructor of Past", all - fields - slots, 0);
    }

    private static int countOf(String form, String code) {
        Matcher m = Pattern.compile(form).matcher(code);
        int n = 0;
        while (m.find()) {
            n++;
        }
        return n;
    }
}
