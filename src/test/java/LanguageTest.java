import java.lang.reflect.Constructor;
import java.lang.reflect.Field;
import java.lang.reflect.Method;
import java.lang.reflect.Modifier;
import java.nio.file.Files;
import java.nio.file.Path;
import java.util.HashSet;
import java.util.Set;
import java.util.regex.Matcher;
import java.util.regex.Pattern;

/** Rules of ../shared/LANGUAGE.md that can be seen from the source or the compiled class. */
public final class LanguageTest {
    private static void absent(String source, String pattern) {
        Matcher m = Pattern.compile(pattern).matcher(source);
        Checks.due("in the source: " + pattern, m.find(), false);
    }

    private static void face() {
        Set<String> names = new HashSet<>();
        for (Method m : FarBank.class.getDeclaredMethods()) {
            if (Modifier.isPublic(m.getModifiers())) {
                names.add(m.getName());
            } else {
                Checks.due(m.getName() + " is private", Modifier.isPrivate(m.getModifiers()), true);
            }
        }
        Checks.due("public methods", names.size(), 47);
        for (Field f : FarBank.class.getDeclaredFields()) {
            boolean constant = f.getName().equals("NONE") || f.getName().equals("GAP");
            Checks.due(f.getName() + " is as it must be", Modifier.isPublic(f.getModifiers()) == constant
                    && Modifier.isPrivate(f.getModifiers()) != constant, true);
            Checks.due(f.getName() + " if static is final", !Modifier.isStatic(f.getModifiers()) || Modifier.isFinal(f.getModifiers()), true);
        }
        for (Constructor<?> c : FarBank.class.getDeclaredConstructors()) {
            Checks.due("the constructor", Modifier.isPublic(c.getModifiers()) && c.getParameterCount() == 0, true);
        }
        Class<?>[] inside = FarBank.class.getDeclaredClasses();
        Checks.due("at most some twelve classes", inside.length <= 12, true);
        for (Class<?> c : inside) {
            Checks.due(c + " is static", Modifier.isStatic(c.getModifiers()), true);
            int fields = 0;
            for (Field f : c.getDeclaredFields()) {
                fields += Modifier.isStatic(f.getModifiers()) ? 0 : 1;
            }
            Checks.due(c + " has at most twenty fields", fields <= 20, true);
            for (Method m : c.getDeclaredMethods()) {
                Checks.due(c + "." + m.getName() + " bears no name of the face", names.contains(m.getName()), false);
                Checks.due(m + " has at most seven parameters", m.getParameterCount() <= 7, true);
            }
        }
    }

    /** Each member as the document writes it, and no other one. */
    private static void asWritten(String document) {
        Set<String> written = new HashSet<>();
        Matcher m = Pattern.compile("(?m)^    public (?!static)(?:(\\w+) )?(\\w+)\\(([^)]*)\\);").matcher(document);
        while (m.find()) {
            String types = m.group(3).replaceAll(" \\w+(, |$)", "$1");
            written.add((m.group(1) == null ? "" : m.group(1) + " ") + m.group(2) + "(" + types + ")");
        }
        Checks.due("members that the document writes", written.size(), 48);
        Set<String> built = new HashSet<>();
        for (Method f : FarBank.class.getDeclaredMethods()) {
            if (Modifier.isPublic(f.getModifiers())) {
                Checks.due(f.getName() + " is of the object", Modifier.isStatic(f.getModifiers()), false);
                built.add(f.getReturnType() + " " + f.getName() + "(" + types(f.getParameterTypes()) + ")");
            }
        }
        for (Constructor<?> c : FarBank.class.getConstructors()) {
            built.add("FarBank(" + types(c.getParameterTypes()) + ")");
        }
        for (String member : written) {
            Checks.due("built: " + member, built.contains(member), true);
        }
        Checks.due("members that are built", built.size(), written.size());
        Checks.due("the class is public and final", Modifier.isPublic(FarBank.class.getModifiers())
                && Modifier.isFinal(FarBank.class.getModifiers()), true);
        m = Pattern.compile("public static final int (\\w+) = (-?\\d+);").matcher(document);
        int constants = 0;
        while (m.find()) {
            constants++;
            Checks.due(m.group(1), m.group(1).equals("NONE") ? FarBank.NONE : FarBank.GAP, Long.parseLong(m.group(2)));
        }
        Checks.due("constants that the document writes", constants, 2);
    }

    private static String types(Class<?>[] types) {
        StringBuilder all = new StringBuilder();
        for (Class<?> type : types) {
            all.append(all.length() == 0 ? "" : ", ").append(type);
        }
        return all.toString();
    }

    /** What the class calls of the library, by class or by what it is called on. */
    private static void library(String code) {
        Set<String> may = Set.of("Math.min", "Math.max", "Math.abs", "Integer.bitCount", "System.arraycopy");
        Matcher m = Pattern.compile("\\b(Math|Integer|Long|System|Arrays|String|List|Character|Objects)\\.\\w+").matcher(code);
        while (m.find()) {
            Checks.due(m.group() + " is in the library's part", may.contains(m.group()), true);
        }
        for (String of : new String[] {"WORDS", "SIGNS"}) {
            m = Pattern.compile("\\b" + of + "\\.(\\w+)").matcher(code);
            while (m.find()) {
                Checks.due(m.group() + " is in the library's part", Set.of("length", "charAt", "indexOf").contains(m.group(1)), true);
            }
        }
        // No call makes an object: all are made in constructors and fields.
        m = Pattern.compile("\\n( *)([^\\n]*)\\bnew\\b").matcher(code);
        while (m.find()) {
            boolean field = m.group(2).startsWith("private final") || m.group(2).startsWith("final");
            boolean inConstructor = m.group(2).matches("\\w+(\\[i\\])? = ");
            Checks.due("new is in a field or a constructor: " + m.group(2), field || inConstructor, true);
        }
    }

    private static void lengths(String source) {
        int since = 0;
        String name = "";
        String[] lines = source.split("\n");
        for (int i = 0; i < lines.length; i++) {
            if (lines[i].matches("( {4}| {8})[a-z].*\\) \\{")) {
                since = i;
                name = lines[i].trim();
            } else if (lines[i].matches("( {4}| {8})\\}") && !name.isEmpty()) {
                Checks.due(name + " has at most sixty lines", i - since <= 60, true);
                name = "";
            }
        }
    }

    public static void main(String[] args) throws Exception {
        String root = args.length > 0 ? args[0] : ".";
        String source = Files.readString(Path.of(root, "src/main/java/FarBank.java"));
        for (int i = 0; i < source.length(); i++) {
            if (source.charAt(i) > 126) {
                Checks.due("a sign above 126 at " + i, 1, 0);
            }
        }
        String code = source.replaceAll("(?s)/\\*.*?\\*/", "").replaceAll("//[^\n]*", "").replaceAll("\"[^\"]*\"", "\"\"");
        for (String word : new String[] {"throw", "throws", "try", "catch", "synchronized", "assert", "import", "package", "protected", "double", "float"}) {
            absent(code, "\\b" + word + "\\b");
        }
        absent(code, "->");
        absent(code, "::");
        absent(code, "Exact");
        absent(code, "\"\" *\\+|\\+ *\"\"");
        absent(code, "\\[\\]\\[\\]");
        absent(code, "static \\{");
        face();
        Path document = Path.of(root, "../shared/DOC.md");
        if (Files.isReadable(document)) {
            asWritten(Files.readString(document));
        } else {
            System.out.println("LanguageTest: no " + document + ", so the face was not held against it");
        }
        library(code);
        lengths(source);
        Checks.close("LanguageTest");
    }
}
