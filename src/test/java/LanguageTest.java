import java.lang.reflect.Field;
import java.lang.reflect.Method;
import java.lang.reflect.Modifier;
import java.nio.file.Files;
import java.nio.file.Path;
import java.util.ArrayList;
import java.util.Arrays;
import java.util.HashSet;
import java.util.List;
import java.util.Map;
import java.util.Set;
import java.util.TreeMap;
import java.util.regex.Matcher;
import java.util.regex.Pattern;

/** What can be seen from the source of the rules in LANGUAGE.md, in as far as the class makes use of what they leave. */
public final class LanguageTest extends Checks {

    private static final Path SOURCE = Path.of("src/main/java/AuditDesk.java");
    private static final Set<String> EXCEPTIONS = Set.of(STATE, ARGUMENT, INDEX);
    private static final Pattern HEAD = Pattern.compile("(?m)^( {4}| {8})(?!class|if|for|while|switch)"
            + "(?:\\w+(?:\\[\\])? )*(\\w+)\\(([^)]*)\\)[^;{}]*\\{$");

    private static final Set<String> OWN = new HashSet<>(Set.of("AuditDesk"));
    private static final Map<String, String> BODIES = new TreeMap<>();

    public static void main(String[] args) throws Exception {
        String source = Files.readString(SOURCE);
        String code = withoutTexts(source);
        for (Class<?> inner : AuditDesk.class.getDeclaredClasses()) {
            OWN.add(inner.getSimpleName());
        }
        about = "rule 1";
        namesOfTheFace();
        about = "rule 2, 6 and 13";
        wordsThatAreOut(code);
        about = "rule 4";
        library(code);
        about = "rule 5";
        staticFields();
        about = "rule 6";
        exceptions(source, code);
        about = "rule 11";
        sizes(code);
        about = "rule 8 and 11";
        depths();
        finish("the source keeps to the language");
    }

    /** Comments go, and what stands in quotation marks. */
    private static String withoutTexts(String source) {
        return source.replaceAll("(?s)/\\*.*?\\*/", "").replaceAll("//[^\n]*", "").replaceAll("\"[^\"\n]*\"", "\"\"");
    }

    private static List<Class<?>> classes() {
        List<Class<?>> all = new ArrayList<>(List.of(AuditDesk.class));
        all.addAll(Arrays.asList(AuditDesk.class.getDeclaredClasses()));
        return all;
    }

    private static void namesOfTheFace() {
        Set<String> face = new HashSet<>();
        for (Method m : AuditDesk.class.getMethods()) {
            face.add(m.getName());
        }
        for (Class<?> inner : AuditDesk.class.getDeclaredClasses()) {
            due(inner + " is static and not public", Modifier.isStatic(inner.getModifiers())
                    && !Modifier.isPublic(inner.getModifiers()) && !Modifier.isProtected(inner.getModifiers()), true);
            for (Method m : inner.getDeclaredMethods()) {
                due(m + " bears a name of the face", face.contains(m.getName()), false);
            }
        }
    }

    private static void wordsThatAreOut(String code) {
        String[] out = {"package", "import", "lambda ->", "reference ::", "synchronized", "assert", "finally", "try",
            "getMessage", "hashCode", "toString", "equals", "double", "float", "native", "volatile", "transient"};
        for (String word : out) {
            String sign = word.substring(word.lastIndexOf(' ') + 1);
            String pattern = sign.matches("\\w+") ? "\\b" + sign + "\\b" : Pattern.quote(sign);
            due("the code has '" + sign + "'", Pattern.compile(pattern).matcher(code).find(), false);
        }
        due("the code has a static initialiser", Pattern.compile("static\\s*\\{").matcher(code).find(), false);
        due("the source has characters above 127", code.chars().anyMatch(c -> c > 127), false);
    }

    private static void library(String code) {
        Matcher named = Pattern.compile("\\b([A-Z]\\w*[a-z]\\w*)\\.(\\w+)").matcher(code);
        while (named.find()) {
            due(named.group() + " is the class's own or of the list",
                    OWN.contains(named.group(1)) || named.group().equals("System.arraycopy"), true);
        }
        Matcher made = Pattern.compile("\\bnew (\\w+)([(\\[])").matcher(code);
        while (made.find()) {
            String type = made.group(1);
            due("new " + type + " is of a type that may be made", OWN.contains(type) || EXCEPTIONS.contains(type)
                    || made.group(2).equals("[") && (type.equals("int") || type.equals("boolean")), true);
        }
    }

    private static void staticFields() {
        Set<Class<?>> types = Set.of(int.class, long.class, boolean.class, char.class, String.class, int[].class,
                long[].class, char[].class, byte[].class);
        for (Class<?> type : classes()) {
            for (Field f : type.getDeclaredFields()) {
                if (Modifier.isStatic(f.getModifiers())) {
                    due(f + " is a final constant", Modifier.isFinal(f.getModifiers()) && types.contains(f.getType()),
                            true);
                }
            }
        }
    }

    private static void exceptions(String source, String code) {
        int throwing = count(code, "\\bthrow\\b");
        due("each throw is of a new exception with a written text",
                count(source, "throw new (" + String.join("|", EXCEPTIONS) + ")\\(\"[^\"\n]*\"\\);"), throwing);
    }

    private static int count(String text, String pattern) {
        return (int) Pattern.compile(pattern).matcher(text).results().count();
    }

    private static void sizes(String code) {
        due("at most twelve classes", classes().size() <= 12, true);
        int methods = 0;
        for (Class<?> type : classes()) {
            int fields = 0;
            for (Field f : type.getDeclaredFields()) {
                fields += Modifier.isStatic(f.getModifiers()) ? 0 : 1;
            }
            due(type + " has at most twenty fields", fields <= 20, true);
            for (Method m : type.getDeclaredMethods()) {
                methods++;
                due(m + " has at most seven parameters", m.getParameterCount() <= 7, true);
            }
        }
        Matcher head = HEAD.matcher(code);
        while (head.find()) {
            int end = code.indexOf("\n" + head.group(1) + "}", head.end());
            String body = code.substring(head.end(), end);
            due(head.group(2) + " has at most sixty lines", body.lines().count() <= 60, true);
            if (!OWN.contains(head.group(2))) {
                BODIES.merge(head.group(2), body, String::concat);
                methods--;
            }
        }
        due("methods whose bodies were not found in the source", methods, 0);
    }

    /** Methods of one name count as one, so that what is seen here is never less than what a run can reach. */
    private static void depths() {
        for (String name : BODIES.keySet()) {
            due(name + " goes at most eight deep, and never into itself", depth(name, 1) <= 8, true);
        }
    }

    private static int depth(String name, int level) {
        int deepest = level;
        if (level > 8) {
            return deepest;
        }
        Matcher call = Pattern.compile("\\b(\\w+)\\(").matcher(BODIES.get(name));
        while (call.find()) {
            if (BODIES.containsKey(call.group(1))) {
                deepest = Math.max(deepest, depth(call.group(1), level + 1));
            }
        }
        return deepest;
    }
}
