import java.io.PrintWriter;
import java.io.StringWriter;
import java.lang.reflect.Array;
import java.lang.reflect.Constructor;
import java.lang.reflect.Field;
import java.lang.reflect.Method;
import java.lang.reflect.Modifier;
import java.nio.file.Files;
import java.nio.file.Path;
import java.util.ArrayList;
import java.util.Arrays;
import java.util.HashSet;
import java.util.IdentityHashMap;
import java.util.List;
import java.util.Map;
import java.util.Set;
import java.util.TreeMap;
import java.util.TreeSet;
import java.util.regex.Matcher;
import java.util.regex.Pattern;
import java.util.spi.ToolProvider;

/** The rules of LANGUAGE.md, as far as the compiled class shows whether they are kept. */
final class LanguageTest {
    private static final String[] FACE = {
        "int feed(int,int,int,int,int)", "int end(int)", "int program()", "int task()", "int values()", "int fault()",
        "boolean set(int,int)", "int is(int)", "int function(int,int)", "int specialise()", "int residue(int)",
        "int variant(int,int)", "int kinds(int,int)", "int run(int,int)", "int output(int,int)", "int place(int)",
        "int value()", "int write(int)", "int octet(int)", "int agree()", "int saved()", "int op(int,int,int)"};
    private static final Set<String> LIBRARY = Set.of("java/lang/Object.<init>", "java/lang/Math.max",
        "java/lang/Math.min", "java/lang/Long.numberOfLeadingZeros", "java/lang/String.length", "java/lang/String.charAt");

    public static void main(String[] args) throws Exception {
        face();
        classes();
        room();
        if (ToolProvider.findFirst("javap").isPresent()) {
            calls();
        } else {
            System.out.println("no javap here: what is called, and how deep, is not looked at");
        }
        Check.close("LanguageTest");
    }

    /** Rule 1, and the document's face. */
    private static void face() throws Exception {
        Set<String> open = new TreeSet<>();
        for (Method m : OnlineParts.class.getDeclaredMethods()) {
            if (!Modifier.isPrivate(m.getModifiers())) {
                Check.due(m + " is public", Modifier.isPublic(m.getModifiers()) ? 1 : 0, 1);
                open.add(m.getReturnType() + " " + m.getName() + Arrays.toString(m.getParameterTypes())
                    .replace('[', '(').replace(']', ')').replace(" ", ""));
            }
        }
        Check.due("the public methods", open.toString(), new TreeSet<>(Arrays.asList(FACE)).toString());
        for (Field f : OnlineParts.class.getDeclaredFields()) {
            Check.due(f + " is private", Modifier.isPrivate(f.getModifiers()) || f.getName().equals("NONE") ? 1 : 0, 1);
        }
        Constructor<?>[] made = OnlineParts.class.getDeclaredConstructors();
        Check.due("constructors", made.length, 1);
        Check.due("it is public", made[0].getModifiers(), Modifier.PUBLIC);
        Check.due("NONE", OnlineParts.class.getField("NONE").getInt(null), -1);
        Check.due("the class", OnlineParts.class.getModifiers(), Modifier.PUBLIC | Modifier.FINAL);
    }

    private static List<Class<?>> all() {
        List<Class<?>> all = new ArrayList<>(Arrays.asList(OnlineParts.class.getDeclaredClasses()));
        all.add(OnlineParts.class);
        return all;
    }

    /** Rules 1, 5 and 11. */
    private static void classes() {
        Check.due("classes, at most 12", all().size() <= 12 ? 1 : 0, 1);
        Set<String> names = new HashSet<>();
        for (String m : FACE) {
            names.add(m.substring(m.indexOf(' ') + 1, m.indexOf('(')));
        }
        for (Class<?> c : all()) {
            int fields = 0;
            for (Field f : c.getDeclaredFields()) {
                boolean isStatic = Modifier.isStatic(f.getModifiers());
                fields += isStatic ? 0 : 1;
                boolean constant = f.getType() == int.class || f.getType() == long.class || f.getType() == String.class;
                Check.due(f + " is a constant", !isStatic || Modifier.isFinal(f.getModifiers()) && constant ? 1 : 0, 1);
            }
            Check.due(c + ": at most 20 fields", fields <= 20 ? 1 : 0, 1);
            for (Method m : c.getDeclaredMethods()) {
                Check.due(m + ": at most seven parameters", m.getParameterCount() <= 7 ? 1 : 0, 1);
                boolean hidden = Modifier.isPrivate(m.getModifiers());
                Check.due(m + " bears a name of its own", hidden && names.contains(m.getName()) ? 1 : 0, 0);
            }
        }
    }

    private static long elements = 0;
    private static final IdentityHashMap<Object, Boolean> SEEN = new IdentityHashMap<>();

    private static void count(Object o) throws Exception {
        if (o == null || SEEN.put(o, true) != null) {
            return;
        }
        if (o.getClass().isArray()) {
            int n = Array.getLength(o);
            elements += n;
            for (int k = 0; k < n && !o.getClass().getComponentType().isPrimitive(); k++) {
                count(Array.get(o, k));
            }
            return;
        }
        for (Field f : o.getClass().getDeclaredFields()) {
            if (!Modifier.isStatic(f.getModifiers())) {
                elements++;
                f.setAccessible(true);
                if (!f.getType().isPrimitive()) {
                    Check.due(f + " is never null", f.get(o) == null ? 1 : 0, 0);
                    count(f.get(o));
                }
            }
        }
    }

    /** Some thirty objects must have place in the room of 600,000 objects and 7.3 million elements. */
    private static void room() throws Exception {
        count(new OnlineParts());
        Check.due("elements of an object: " + elements, elements <= 240000 ? 1 : 0, 1);
        Check.due("objects of an object: " + SEEN.size(), SEEN.size() <= 200 ? 1 : 0, 1);
    }

    private static String disassembled() throws Exception {
        Path own = Path.of(OnlineParts.class.getProtectionDomain().getCodeSource().getLocation().toURI());
        List<String> words = new ArrayList<>(List.of("-p", "-c"));
        try (var files = Files.list(own)) {
            files.map(Path::toString).filter(f -> f.matches(".*OnlineParts(\\$.*)?\\.class")).forEach(words::add);
        }
        StringWriter told = new StringWriter();
        ToolProvider javap = ToolProvider.findFirst("javap").orElseThrow();
        Check.due("javap", javap.run(new PrintWriter(told), new PrintWriter(System.out), words.toArray(new String[0])), 0);
        return told.toString();
    }

    private static final Map<String, Set<String>> CALLS = new TreeMap<>();

    /** Rules 2, 4, 6 and 11: what is called, and how deep. */
    private static void calls() throws Exception {
        String text = disassembled();
        Check.due("no lambda, no joined text", text.contains("invokedynamic") ? 1 : 0, 0);
        Check.due("no exception is caught", text.contains("Exception table") ? 1 : 0, 0);
        Check.due("no exception is thrown", text.contains("athrow") ? 1 : 0, 0);
        Check.due("no float, no double", Pattern.compile("\\b[fd](add|sub|mul|div|rem|load|store|const)").matcher(text).find() ? 1 : 0, 0);
        String type = "";
        String method = "";
        Pattern head = Pattern.compile("^  (?:\\S.* )?([\\w$.]+)\\(.*\\);$");
        Pattern called = Pattern.compile("// Method (\\S+):\\(");
        for (String line : text.split("\n")) {
            Matcher m = head.matcher(line);
            if (!line.startsWith(" ") && line.contains("class ")) {
                type = line.replaceAll(".*class (\\S+?)\\s*\\{.*", "$1");
            } else if (m.matches()) {
                method = m.group(1).equals(type) ? type + ".<init>" : type + "." + m.group(1);
                CALLS.putIfAbsent(method, new TreeSet<>());
            }
            m = called.matcher(line);
            if (m.find()) {
                String to = m.group(1).replace("\"", "");
                CALLS.get(method).add(to.contains(".") ? to : type + "." + to);
            }
        }
        Check.due("methods were seen", CALLS.size() > 150 ? 1 : 0, 1);
        for (Set<String> row : CALLS.values()) {
            for (String to : row) {
                Check.due(to + " is the class's own or listed", CALLS.containsKey(to) || LIBRARY.contains(to) ? 1 : 0, 1);
            }
        }
        for (String m : FACE) {
            String name = "OnlineParts." + m.substring(m.indexOf(' ') + 1, m.indexOf('('));
            Check.due(name + " goes deep: " + depth(name), depth(name) <= 8 ? 1 : 0, 1);
        }
    }

    private static final Map<String, Integer> DEPTHS = new TreeMap<>();

    /** How many open at once at most, the library's too, all that call one another being one. */
    private static int depth(String method) {
        Integer known = DEPTHS.get(method);
        if (known != null) {
            return known;
        }
        Set<String> mine = reached(method);
        int below = 0;
        for (String one : mine) {
            if (one.equals(method) || reached(one).contains(method)) {
                for (String to : CALLS.getOrDefault(one, Set.of())) {
                    boolean same = to.equals(method) || reached(to).contains(method);
                    below = Math.max(below, same ? 0 : depth(to));
                }
            }
        }
        DEPTHS.put(method, below + 1);
        return below + 1;
    }

    /** The method itself, and all that it leads to. */
    private static Set<String> reached(String method) {
        Set<String> seen = new TreeSet<>(Set.of(method));
        List<String> open = new ArrayList<>(List.of(method));
        while (!open.isEmpty()) {
            for (String to : CALLS.getOrDefault(open.remove(open.size() - 1), Set.of())) {
                if (seen.add(to)) {
                    open.add(to);
                }
            }
        }
        return seen;
    }
}
