import java.lang.reflect.Method;
import java.lang.reflect.Modifier;
import java.nio.charset.StandardCharsets;
import java.nio.file.Files;
import java.nio.file.Path;
import java.util.HashMap;
import java.util.Map;
import java.util.regex.Matcher;
import java.util.regex.Pattern;

/** README.md: its text can be told, each of its calls answers what it says, and it names all calls. */
public final class ReadmeTest {
    private static final Pattern CALL = Pattern.compile("(?m)^bank\\.(\\w+)\\(([^)]*)\\); *// (-?\\d+|true|false)\\b");

    /** Stands in README.md just as here. */
    static int tell(FarBank bank, byte[] text) {
        for (int i = 0; i < text.length; i += 20) {
            int[] five = new int[5];
            for (int j = 0; j < 20; j++) {
                five[j / 4] = five[j / 4] << 8 | (i + j < text.length ? text[i + j] & 255 : 32);
            }
            bank.feed(five[0], five[1], five[2], five[3], five[4]);
        }
        bank.end(text.length);
        return bank.river(); // NONE: fault(0) says what is wrong, fault(1) where
    }

    private static String between(String page, String from, String to) {
        int begin = page.indexOf(from);
        int end = begin < 0 ? -1 : page.indexOf(to, begin + from.length());
        return end < 0 ? "" : page.substring(begin + from.length(), end);
    }

    private static Map<String, Method> face() {
        Map<String, Method> face = new HashMap<>();
        for (Method m : FarBank.class.getDeclaredMethods()) {
            if (Modifier.isPublic(m.getModifiers())) {
                face.put(m.getName(), m);
            }
        }
        return face;
    }

    private static Object[] read(String arguments) {
        if (arguments.isEmpty()) {
            return new Object[0];
        }
        String[] parts = arguments.split(", *");
        Object[] read = new Object[parts.length];
        for (int i = 0; i < parts.length; i++) {
            boolean truth = parts[i].equals("true") || parts[i].equals("false");
            read[i] = truth ? (Object) Boolean.valueOf(parts[i]) : Integer.valueOf(parts[i]);
        }
        return read;
    }

    public static void main(String[] args) throws Exception {
        String root = args.length > 0 ? args[0] : ".";
        String page = Files.readString(Path.of(root, "README.md"));
        String own = Files.readString(Path.of(root, "src/test/java/ReadmeTest.java"));
        String helper = between(own, "    static int tell", "\n    }\n").replace("\n    ", "\n");
        Checks.due("README.md has tell() as it is here", page.contains("static int tell" + helper + "\n}\n"), true);
        FarBank bank = new FarBank();
        Checks.due("tell()", tell(bank, between(page, "```text\n", "```").getBytes(StandardCharsets.US_ASCII)), 4);
        Map<String, Method> face = face();
        Matcher call = CALL.matcher(page);
        int calls = 0;
        while (call.find()) {
            Object got = face.get(call.group(1)).invoke(bank, read(call.group(2)));
            Checks.due(call.group() + " - README.md, not " + got, got.toString().equals(call.group(3)), true);
            calls++;
        }
        Checks.due("calls in README.md", calls, 20);
        for (String name : face.keySet()) {
            Checks.due("README.md names " + name, page.contains("`" + name + "`"), true);
        }
        Checks.close("ReadmeTest");
    }
}
