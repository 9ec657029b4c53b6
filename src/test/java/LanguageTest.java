import java.io.IOException;
import java.io.PrintWriter;
import java.io.StringWriter;
import java.lang.reflect.Constructor;
import java.lang.reflect.Field;
import java.lang.reflect.Method;
import java.lang.reflect.Modifier;
import java.nio.file.Files;
import java.nio.file.Path;
import java.util.ArrayList;
import java.util.List;
import java.util.Map;
import java.util.Optional;
import java.util.Set;
import java.util.TreeMap;
import java.util.TreeSet;
import java.util.regex.Matcher;
import java.util.regex.Pattern;
import java.util.spi.ToolProvider;

/** The rules of ../shared/LANGUAGE.md that a look at the source or at the class can tell. */
public final class LanguageTest {
    private static final Path SOURCE = Path.of("src/main/java/IntervalSignal.java");
    private static final Path DOCUMENT = Path.of("../shared/DOC.md");
    private static final Set<String> LIBRARY = Set.of("java/lang/Object.\"<init>\"", "java/lang/String.length",
            "java/lang/String.charAt", "java/lang/Math.abs", "java/lang/Math.max", "java/lang/Math.min",
            "java/lang/Integer.bitCount", "java/lang/System.arraycopy", "java/util/Arrays.fill");
    private static final Check check = new Check();

    public static void main(String[] args) throws IOException {
        faceIsTheDocuments();
        fieldsAreAllowed();
        wordsAreAllowed();
        nothingIsMadeByCalls();
        methodsAreShort();
        callsAreShallow();
        check.close();
    }

    private static void holds(String what, boolean so) {
        check.due(what, so ? 1 : 0, 1);
    }

    private static void faceIsTheDocuments() throws IOException {
        check.part("rule 1");
        Set<String> promised = new TreeSet<>();
        Matcher m = Pattern.compile("    public (int|long) (\\w+)\\(([^)]*)\\);").matcher(Files.readString(DOCUMENT));
        while (m.find()) {
            promised.add(m.group(1) + " " + m.group(2) + "(" + m.group(3).replaceAll(" \\w+(,|$)", "$1") + ")");
        }
        Set<String> names = new TreeSet<>();
        Set<String> face = new TreeSet<>();
        for (Method method : IntervalSignal.class.getDeclaredMethods()) {
            if (Modifier.isPublic(method.getModifiers())) {
                StringBuilder types = new StringBuilder();
                for (Class<?> type : method.getParameterTypes()) {
                    types.append(types.length() == 0 ? "" : ", ").append(type.getName());
                }
                face.add(method.getReturnType().getName() + " " + method.getName() + "(" + types + ")");
                names.add(method.getName());
            } else {
                holds(method + " is private", Modifier.isPrivate(method.getModifiers()));
            }
        }
        holds("the face is the document's " + promised.size() + " methods", promised.equals(face) && promised.size() == 71);
        holds("public and final", Modifier.isPublic(IntervalSignal.class.getModifiers())
                && Modifier.isFinal(IntervalSignal.class.getModifiers()));
        Constructor<?>[] makers = IntervalSignal.class.getDeclaredConstructors();
        holds("one public constructor", makers.length == 1 && Modifier.isPublic(makers[0].getModifiers())
                && makers[0].getParameterCount() == 0);
        holds("at most twelve classes", IntervalSignal.class.getDeclaredClasses().length + 1 <= 12);
        for (Class<?> inner : IntervalSignal.class.getDeclaredClasses()) {
            holds(inner + " is private and static", Modifier.isPrivate(inner.getModifiers())
                    && Modifier.isStatic(inner.getModifiers()));
            for (Method method : inner.getDeclaredMethods()) {
                holds(method + " has a name of its own", !names.contains(method.getName()));
                holds(method + " has at most seven parameters", method.getParameterCount() <= 7);
            }
        }
    }

    private static void fieldsAreAllowed() {
        check.part("rules 1, 5, 11");
        for (Field field : IntervalSignal.class.getDeclaredFields()) {
            boolean isNone = field.getName().equals("NONE");
            holds(field + " is private or NONE", isNone || Modifier.isPrivate(field.getModifiers()));
            holds(field + " is final", Modifier.isFinal(field.getModifiers()));
        }
        for (Class<?> inner : IntervalSignal.class.getDeclaredClasses()) {
            int own = 0;
            for (Field field : inner.getDeclaredFields()) {
                boolean constant = Modifier.isStatic(field.getModifiers());
                own += constant ? 0 : 1;
                holds(field + " is final if static", !constant || Modifier.isFinal(field.getModifiers()));
            }
            holds(inner + " has at most twenty fields", own <= 20);
        }
    }

    private static String code() throws IOException {
        return Files.readString(SOURCE).replaceAll("(?s)/\\*.*?\\*/", "").replaceAll("//[^\n]*", "");
    }

    private static void wordsAreAllowed() throws IOException {
        check.part("rules 3, 4, 6, 13");
        String code = code();
        for (String word : new String[] {"throw", "throws", "try", "catch", "finally", "synchronized", "assert", "package",
            "System\\.(?!arraycopy)", "Random", "Thread", "->", "::", "Exact", "HashMap", "equals", "hashCode", "toString",
            "protected", "volatile", "native", "double", "float"}) {
            String bounded = word.matches("\\w+") ? "\\b" + word + "\\b" : word;
            holds("no " + word, !Pattern.compile(bounded).matcher(code).find());
        }
        Matcher imports = Pattern.compile("import ([^;]*);").matcher(code);
        while (imports.find()) {
            holds("import " + imports.group(1), imports.group(1).equals("java.util.Arrays"));
        }
        holds("signs 1 to 127 alone", code.chars().allMatch(sign -> sign < 128));
    }

    private static void nothingIsMadeByCalls() throws IOException {
        check.part("rule 12");
        List<String> lines = code().lines().toList();
        boolean inConstructor = false;
        for (String line : lines) {
            if (line.startsWith("    public IntervalSignal()")) {
                inConstructor = true;
            }
            if (line.contains(" new ")) {
                boolean field = line.matches("        private final .* = new .*;") || line.matches("        private int\\[\\] .* = new .*;");
                holds("made with the object: " + line.trim(), inConstructor || field);
            }
            if (line.equals("    }")) {
                inConstructor = false;
            }
        }
    }

    private static void methodsAreShort() throws IOException {
        check.part("rule 11");
        int start = -1;
        String name = "";
        List<String> lines = Files.readString(SOURCE).lines().toList();
        for (int n = 0; n < lines.size(); n++) {
            String line = lines.get(n);
            if (line.matches(" {4}( {4})?[a-zA-Z].*\\) \\{")) {
                start = n;
                name = line.trim();
            }
            if (start >= 0 && line.matches(" {4}( {4})?\\}") && line.indexOf('}') == indent(lines.get(start))) {
                holds(name + " is short", n - start < 60);
                start = -1;
            }
        }
    }

    /** The calls that each method of the compiled program holds, as javap tells them. */
    private static Map<String, Set<String>> callsOfMethods(ToolProvider javap) {
        List<String> asked = new ArrayList<>(List.of("-c", "-p", "-cp", System.getProperty("java.class.path")));
        asked.add("IntervalSignal");
        for (Class<?> inner : IntervalSignal.class.getDeclaredClasses()) {
            asked.add(inner.getName());
        }
        StringWriter told = new StringWriter();
        PrintWriter to = new PrintWriter(told);
        javap.run(to, to, asked.toArray(new String[0]));
        Map<String, Set<String>> calls = new TreeMap<>();
        String type = "";
        Set<String> held = new TreeSet<>();
        for (String line : told.toString().lines().toList()) {
            Matcher head = Pattern.compile(".*\\bclass (\\S+) \\{").matcher(line);
            Matcher method = Pattern.compile("  \\S.*?([\\w$]+)\\(.*\\);").matcher(line);
            Matcher call = Pattern.compile(".*// Method ([^:]+):.*").matcher(line);
            if (head.matches()) {
                type = head.group(1);
            } else if (method.matches()) {
                boolean maker = type.endsWith(method.group(1));
                held = new TreeSet<>();
                calls.put(type + "." + (maker ? "\"<init>\"" : method.group(1)), held);
            } else if (call.matches()) {
                held.add(call.group(1).contains(".") ? call.group(1) : type + "." + call.group(1));
            }
        }
        return calls;
    }

    private static void callsAreShallow() {
        check.part("rules 4, 8, 11");
        Optional<ToolProvider> javap = ToolProvider.findFirst("javap");
        if (javap.isEmpty()) {
            System.out.println("this java has no javap: how deep calls go was not looked at");
            return;
        }
        Map<String, Set<String>> calls = callsOfMethods(javap.get());
        holds("methods found", calls.size() > 150 && calls.containsKey("IntervalSignal.station"));
        for (Map.Entry<String, Set<String>> method : calls.entrySet()) {
            for (String call : method.getValue()) {
                holds(call + " in " + method.getKey() + " is its own or the library's that is allowed",
                        calls.containsKey(call) || LIBRARY.contains(call));
            }
            int open = open(calls, method.getKey(), 1);
            holds(method.getKey() + " has at most eight calls open: " + open, open <= 8);
        }
    }

    /** How many calls stand open at once, this one among them; the library's are not counted. */
    private static int open(Map<String, Set<String>> calls, String method, int depth) {
        int most = depth;
        for (String call : calls.getOrDefault(method, Set.of())) {
            if (calls.containsKey(call) && depth < 20) {
                most = Math.max(most, open(calls, call, depth + 1));
            }
        }
        return most;
    }

    private static int indent(String line) {
        return line.length() - line.stripLeading().length();
    }
}
