import java.lang.reflect.Method;
import java.lang.reflect.Modifier;
import java.util.ArrayList;
import java.util.Comparator;
import java.util.List;
import java.util.Random;

/** Random rivers, hurt ones too, and random calls: each answer is held against the Model's. */
public final class ModelTest {
    private static final int RUNS = 1500;
    private static final String[] LEAVES = {"here", "there", "pity", "terms", "season", "0", "1", "3", "17", "9999"};
    private static final String[] JOINS = {" or ", " and ", "<", ">", "=", "+", "-", "*", "/", "%"};
    private static final String[] JUNK = {";", "(", ")", "not", "and", "deed", "vote", "1", "99", "12345", "1a", "$", "abcdefghi", "q", "d",
        "on", "does", "pity", "of", "\n", "+", "<", "winter", "draw 5;", "here", "A", "\t", "" + (char) 200, "first", "person"};

    private static final List<String> ACTS = List.of("elect", "force", "drum", "season", "undo", "redo", "image", "back");

    private final Random random;

    private ModelTest(long seed) {
        random = new Random(seed);
    }

    private String blank() {
        return random.nextInt(6) == 0 ? "\n " : " ";
    }

    private String formula(int depth) {
        int kind = depth <= 0 ? 0 : random.nextInt(8);
        if (kind <= 2) {
            return LEAVES[random.nextInt(LEAVES.length)];
        }
        if (kind == 3) {
            return "(" + formula(depth - 1) + ")";
        }
        if (kind == 4) {
            return "(not " + formula(depth - 1) + ")";
        }
        String left = formula(depth - 1);
        String right = formula(depth - 1);
        boolean wrap = random.nextInt(3) > 0;
        String both = left + JOINS[random.nextInt(JOINS.length)] + right;
        return wrap ? "(" + both + ")" : both;
    }

    private String worth() {
        return (random.nextInt(2) == 0 ? "good" : "bad") + blank() + random.nextInt(random.nextInt(4) == 0 ? 51 : 6);
    }

    private String text() {
        List<String> lines = new ArrayList<>();
        int deeds = random.nextInt(20) == 0 ? random.nextInt(7) : 1 + random.nextInt(5);
        for (int d = 0; d < deeds; d++) {
            lines.add("deed " + (char) ('a' + d) + " here " + worth() + " there" + blank() + worth());
        }
        int persons = random.nextInt(30) == 0 ? 9 : random.nextInt(9);
        for (int p = 0; p < persons && deeds > 0; p++) {
            StringBuilder s = new StringBuilder("person p" + (char) ('a' + p) + " of " + random.nextInt(2) + " first " + (char) ('a' + random.nextInt(deeds)));
            for (int d = 0; d < deeds; d++) {
                if (random.nextInt(3) > 0) {
                    s.append(" on ").append((char) ('a' + d)).append(" does ").append((char) ('a' + random.nextInt(deeds)));
                }
            }
            lines.add(s.toString());
        }
        int groups = random.nextInt(30) == 0 ? 7 : random.nextInt(7);
        for (int g = 0; g < groups; g++) {
            lines.add("group g" + (char) ('a' + g) + " of " + random.nextInt(2) + " many " + (1 + random.nextInt(random.nextInt(2) == 0 ? 99 : 4))
                    + (random.nextInt(2) == 0 ? " pity " + random.nextInt(10) : ""));
        }
        if (random.nextInt(4) > 0) {
            lines.add("vote " + formula(1 + random.nextInt(6)));
        }
        if (random.nextInt(3) > 0) {
            lines.add("winter " + random.nextInt(101) + " of " + (1 + random.nextInt(random.nextInt(2) == 0 ? 50 : 4)));
        }
        if (random.nextInt(3) > 0) {
            lines.add("draw " + random.nextInt(1000));
        }
        StringBuilder all = new StringBuilder();
        for (String line : lines) {
            all.append(line).append(random.nextInt(4) == 0 ? " ;\n" : ";");
        }
        return all.toString();
    }

    private String hurt(String text) {
        StringBuilder s = new StringBuilder(text);
        for (int times = 1 + random.nextInt(2); times > 0; times--) {
            int at = random.nextInt(s.length() + 1);
            switch (random.nextInt(5)) {
                case 4:
                    // A name for another one, so that some are told twice and some by nobody.
                    for (int i = at; i + 1 < s.length(); i++) {
                        if (s.charAt(i) >= 'a' && s.charAt(i) <= 'i' && s.charAt(i + 1) == ' ') {
                            s.setCharAt(i, (char) ('a' + random.nextInt(6)));
                            break;
                        }
                    }
                    break;
                case 0:
                    s.insert(at, JUNK[random.nextInt(JUNK.length)]);
                    break;
                case 1:
                    s.insert(at, " " + JUNK[random.nextInt(JUNK.length)] + " ");
                    break;
                case 2:
                    s.delete(at, Math.min(s.length(), at + 1 + random.nextInt(4)));
                    break;
                default:
                    s.setLength(at);
            }
        }
        return s.toString();
    }

    private int number(String method, int position) {
        if (random.nextInt(40) == 0) {
            int[] wild = {Integer.MIN_VALUE, Integer.MAX_VALUE, -2, 61, 1001, 100001, 31, 32, 64, -1000000000};
            return wild[random.nextInt(wild.length)];
        }
        if (method.equals("later")) {
            return random.nextInt(4) == 0 ? random.nextInt(1100) : random.nextInt(4);
        }
        if (method.equals("fits") || method.equals("ask") && position == 1) {
            return random.nextInt(3) == 0 ? random.nextInt(20) - 2 : random.nextInt(3000);
        }
        if (random.nextInt(3) == 0 && "will pay best total champion rests concord holds treaties hold feared".contains(method)) {
            return random.nextInt(62);
        }
        return random.nextInt(10) - 1;
    }

    private void run(long seed, List<Method> ours, List<Method> theirs) throws Exception {
        FarBank bank = new FarBank();
        Model model = new Model();
        String text = "";
        StringBuilder told = new StringBuilder();
        for (int i = 0; i < 400; i++) {
            if (i == 0 || random.nextInt(100) == 0) {
                text = random.nextInt(3) == 0 ? hurt(text()) : text();
                feed(bank, model, text);
            }
            int m = random.nextInt(ours.size());
            while (random.nextInt(4) == 0 && !ACTS.contains(ours.get(m).getName())) {
                m = random.nextInt(ours.size());
            }
            Method our = ours.get(m);
            Class<?>[] types = our.getParameterTypes();
            Object[] args = new Object[types.length];
            for (int j = 0; j < types.length; j++) {
                args[j] = types[j] == boolean.class ? (Object) random.nextBoolean() : (Object) number(our.getName(), j);
            }
            Object got = our.invoke(bank, args);
            Object want = theirs.get(m).invoke(model, args);
            if (!got.equals(want)) {
                Checks.due("seed " + seed + " call " + i + " " + our.getName() + java.util.Arrays.toString(args) + " got " + got
                        + " want " + want + "\n" + text + "\n" + told, 0, 1);
                return;
            }
            told.append(our.getName()).append(java.util.Arrays.toString(args)).append(' ');
            Checks.due("", 0, 0);
        }
    }

    private void feed(FarBank bank, Model model, String text) {
        bank.end(0);
        model.end(0);
        for (int i = 0; i < text.length(); i += 20) {
            int[] five = new int[5];
            for (int j = 0; j < 20; j++) {
                five[j / 4] = five[j / 4] << 8 | (i + j < text.length() ? text.charAt(i + j) & 255 : 32);
            }
            Checks.due("feed", bank.feed(five[0], five[1], five[2], five[3], five[4]), model.feed(five[0], five[1], five[2], five[3], five[4]));
        }
        Checks.due("end", bank.end(text.length()), model.end(text.length()));
        int want = model.river();
        Checks.due("river of " + text, bank.river(), want);
        Checks.due("fault of " + text, bank.fault(0), model.fault(0));
        Checks.due("place in " + text, bank.fault(1), model.fault(1));
        faults[model.fault(0)]++;
    }

    private static final int[] faults = new int[6];

    public static void main(String[] args) throws Exception {
        List<Method> ours = new ArrayList<>();
        List<Method> theirs = new ArrayList<>();
        for (Method m : FarBank.class.getDeclaredMethods()) {
            if (Modifier.isPublic(m.getModifiers())) {
                ours.add(m);
            }
        }
        ours.sort(Comparator.comparing(Method::getName));
        for (Method m : ours) {
            theirs.add(Model.class.getDeclaredMethod(m.getName(), m.getParameterTypes()));
        }
        Checks.due("methods of the face", ours.size(), 47);
        for (int i = 0; i < RUNS; i++) {
            new ModelTest(i).run(i, ours, theirs);
        }
        for (int f = 0; f < faults.length; f++) {
            Checks.due("texts with fault " + f + " were tried", faults[f] > 5, true);
        }
        Checks.close("ModelTest");
    }
}
