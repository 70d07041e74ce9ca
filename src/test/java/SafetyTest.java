import java.lang.reflect.Method;
import java.lang.reflect.Modifier;
import java.util.ArrayList;
import java.util.Comparator;
import java.util.List;
import java.util.Random;

/** Calls with any arguments in any state: none may throw, whatever lies on the TAPE. */
public final class SafetyTest {
    private static final int[] WILD = {Integer.MIN_VALUE, Integer.MIN_VALUE + 1, -1000000000, -2, -1, 0, 1, 2, 3, 4, 5, 6, 7, 8, 29, 30, 31, 32, 60,
        61, 999, 1000, 1600, 100000, Integer.MAX_VALUE - 1, Integer.MAX_VALUE};

    private static int any(Random random) {
        return random.nextInt(10) == 0 ? random.nextInt() : WILD[random.nextInt(WILD.length)];
    }

    private static String noise(Random random) {
        String signs = " \n;()<>=+-*/%$A09abz";
        List<String> words = new ArrayList<>(Model.WORDS);
        words.sort(Comparator.naturalOrder());
        StringBuilder s = new StringBuilder();
        while (s.length() < random.nextInt(1600)) {
            s.append(random.nextInt(3) == 0 ? "" + signs.charAt(random.nextInt(signs.length())) : " " + words.get(random.nextInt(words.size())));
        }
        s.setLength(Math.min(s.length(), 1600));
        return s.toString();
    }

    private static String full() {
        StringBuilder s = new StringBuilder();
        for (char c = 'a'; c < 'f'; c++) {
            s.append("deed " + c + " here bad 50 there bad 50;");
        }
        for (char c = 'a'; c < 'i'; c++) {
            s.append("person " + c + " of " + c % 2 + " first a on a does b on b does c on c does d on d does e on e does a;");
        }
        for (char c = 'a'; c < 'g'; c++) {
            s.append("group " + c + " of " + c % 2 + " many 99 pity 9;");
        }
        s.append("vote ");
        for (int i = 0; i < 29; i++) {
            s.append("not not not not not not not 1 and ".substring(i < 10 ? 0 : 28));
        }
        s.append("1;winter 100 of 50;draw 999;");
        return s.toString();
    }

    public static void main(String[] args) throws Exception {
        List<Method> face = new ArrayList<>();
        for (Method m : FarBank.class.getDeclaredMethods()) {
            if (Modifier.isPublic(m.getModifiers())) {
                face.add(m);
            }
        }
        face.sort(Comparator.comparing(Method::getName));
        for (int seed = 0; seed < 300; seed++) {
            Random random = new Random(seed);
            FarBank bank = new FarBank();
            Checks.put(bank, seed % 3 == 0 ? noise(random) : seed % 3 == 1 ? ToldTest.SAMPLE : full());
            int persons = bank.river();
            Checks.due("river " + seed, seed % 3 == 0 ? persons >= -1 : persons == (seed % 3 == 1 ? 4 : 8), true);
            for (int i = 0; i < 500; i++) {
                Method m = face.get(random.nextInt(face.size()));
                Object[] with = new Object[m.getParameterCount()];
                for (int j = 0; j < with.length; j++) {
                    with[j] = m.getParameterTypes()[j] == boolean.class ? (Object) random.nextBoolean() : (Object) any(random);
                }
                try {
                    m.invoke(bank, with);
                } catch (java.lang.reflect.InvocationTargetException e) {
                    Checks.due(m.getName() + java.util.Arrays.toString(with) + " threw " + e.getCause(), 1, 0);
                }
            }
        }
        Checks.close("SafetyTest");
    }
}
