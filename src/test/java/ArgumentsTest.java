import java.lang.reflect.Method;
import java.util.Arrays;

/**
 * Each argument of each call just below the least that can be, at it, at the most, just above that, and the least and
 * the largest int: in a full RIVER, in one told behind it that has fewer rows, and in an empty one. What can be is held
 * against the Model, too.
 */
public final class ArgumentsTest {
    private static final int NONE = FarBank.NONE;
    private static final int GAP = FarBank.GAP;
    private static final int LEAST = Integer.MIN_VALUE;
    private static final int LARGEST = Integer.MAX_VALUE;

    private final int deeds;
    private final int persons;
    private final int groups;
    private final String name;
    private final String[] texts;

    private ArgumentsTest(String name, int deeds, int persons, int groups, String... texts) {
        this.name = name;
        this.deeds = deeds;
        this.persons = persons;
        this.groups = groups;
        this.texts = texts;
    }

    private static Method find(Class<?> of, String call) {
        for (Method m : of.getDeclaredMethods()) {
            if (m.getName().equals(call)) {
                return m;
            }
        }
        throw new IllegalStateException(call);
    }

    /** Booleans are told as 0 or 1, and answered so. */
    private static long answer(Object bank, String call, int... args) throws Exception {
        Method m = find(bank.getClass(), call);
        Class<?>[] types = m.getParameterTypes();
        Object[] with = new Object[types.length];
        for (int i = 0; i < with.length; i++) {
            with[i] = types[i] == boolean.class ? (Object) (args[i] != 0) : (Object) args[i];
        }
        Object got = m.invoke(bank, with);
        return got instanceof Boolean b ? (b ? 1 : 0) : ((Integer) got).longValue();
    }

    /** Brings an object, ours or the Model, to the state that all calls are tried in. */
    private Object made(Object bank) throws Exception {
        for (String text : texts) {
            for (int i = 0; i < text.length(); i += 20) {
                int[] five = new int[5];
                for (int j = 0; j < 20; j++) {
                    five[j / 4] = five[j / 4] << 8 | (i + j < text.length() ? text.charAt(i + j) & 255 : 32);
                }
                answer(bank, "feed", five);
            }
            answer(bank, "river");
        }
        int[][] acts = {{1}, {persons - 2}};
        for (int[] act : acts) {
            answer(bank, "force", act);
        }
        answer(bank, "season");
        answer(bank, "image", 0);
        answer(bank, "image", 2);
        answer(bank, "season");
        answer(bank, "undo");
        answer(bank, "seen", -1, 0, 0);
        answer(bank, "from", 0, 0);
        answer(bank, "petition", 0, 3);
        answer(bank, "feed", 0, 0, 0, 0, 0);
        return bank;
    }

    private void can(String call, long refusal, int... args) throws Exception {
        String shown = name + call + Arrays.toString(args);
        long got = answer(made(new FarBank()), call, args);
        Checks.due(shown, got, answer(made(new Model()), call, args));
        Checks.due(shown + " can be", got != refusal, true);
    }

    private void cannot(String call, long refusal, int... args) throws Exception {
        Checks.due(name + call + Arrays.toString(args), answer(made(new FarBank()), call, args), refusal);
    }

    /** All edges of one argument; the others are as in a call that can be. */
    private void edges(String call, long refusal, int[] args, int at, int least, int most) throws Exception {
        int[] with = args.clone();
        for (int value : new int[] {least, most}) {
            with[at] = value;
            can(call, refusal, with);
        }
        beyond(call, refusal, args, at, least, most);
    }

    private void beyond(String call, long refusal, int[] args, int at, int least, int most) throws Exception {
        int[] with = args.clone();
        for (int value : new int[] {least - 1, most + 1, most + 2, least - 2, LEAST, LARGEST, LEAST + 1, LARGEST - 1}) {
            with[at] = value;
            cannot(call, refusal, with);
        }
    }

    private static int[] args(int... all) {
        return all;
    }

    private void ofDeeds() throws Exception {
        edges("deed", GAP, args(0, 0), 0, 0, deeds - 1);
        edges("deed", GAP, args(0, 0), 1, 0, 1);
        edges("does", NONE, args(0, 0), 1, -1, deeds - 1);
        edges("drum", NONE, args(0, 0), 1, 0, deeds - 1);
        edges("holds", NONE, args(0, 0, 1), 0, 0, deeds - 1);
        edges("holds", NONE, args(0, 0, 1), 1, 0, deeds - 1);
        edges("holds", NONE, args(0, 0, 1), 2, 0, 60);
        edges("fair", GAP, args(0), 0, 0, 2);
        edges("seen", NONE, args(0, 0, 1), 0, -1, deeds - 1);
        edges("seen", NONE, args(0, 0, 0), 1, 0, deeds - 1);
    }

    private void ofPersons() throws Exception {
        int last = persons - 1;
        for (String call : new String[] {"person", "sway"}) {
            edges(call, NONE, args(0, 0), 0, 0, last);
        }
        edges("person", NONE, args(0, 0), 1, 0, 3);
        edges("sway", NONE, args(0, 0), 1, 0, 1);
        edges("does", NONE, args(0, 0), 0, 0, last);
        edges("votes", NONE, args(0), 0, 0, last);
        edges("force", NONE, args(0), 0, 0, last);
        edges("twins", NONE, args(0), 0, 0, last);
        edges("best", NONE, args(0, 1), 0, 0, last);
        edges("best", NONE, args(0, 1), 1, 1, 60);
        edges("total", GAP, args(0, 1), 0, 0, last);
        edges("total", GAP, args(0, 1), 1, 1, 60);
        edges("feared", NONE, args(0, 1), 0, 0, last);
        edges("feared", NONE, args(0, 1), 1, 1, 60);
        ofTwo(last);
    }

    /** The first PERSON is of TOWN 0, the last one of TOWN 1. */
    private void ofTwo(int last) throws Exception {
        can("pay", GAP, 0, last, 1, 0);
        can("pay", GAP, last, 0, 1, 1);
        cannot("pay", GAP, 0, 1, 1, 0);
        cannot("pay", GAP, last, last, 1, 0);
        beyond("pay", GAP, args(0, last, 1, 0), 0, 0, last);
        beyond("pay", GAP, args(0, last, 1, 0), 1, 0, last);
        edges("pay", GAP, args(0, last, 1, 0), 2, 0, 60);
        edges("pay", GAP, args(0, last, 1, 0), 3, 0, 1);
        can("round", NONE, 0, last, 0);
        can("round", NONE, last, 0, 1);
        cannot("round", NONE, 0, 1, 0);
        cannot("round", NONE, last, last, 1);
        beyond("round", NONE, args(0, last, 0), 0, 0, last);
        beyond("round", NONE, args(0, last, 0), 1, 0, last);
        edges("round", NONE, args(0, last, 0), 2, 0, 1);
        can("mean", GAP, 0, last, 0);
        can("mean", GAP, last, 0, 1);
        cannot("mean", GAP, 1, 0, 0);
        cannot("mean", GAP, 0, 0, 1);
        beyond("mean", GAP, args(0, last, 0), 0, 0, last);
        beyond("mean", GAP, args(0, last, 0), 1, 0, last);
        edges("mean", GAP, args(0, last, 0), 2, 0, 1);
    }

    private void ofTownsAndGroups() throws Exception {
        edges("group", NONE, args(0, 0), 0, 0, groups - 1);
        edges("group", NONE, args(0, 0), 1, 0, 3);
        for (int town = 0; town < 2; town++) {
            edges("town", GAP, args(town, 0), 1, 0, 4);
            edges("will", GAP, args(town, 0), 1, 0, 60);
            edges("margin", NONE, args(town, 0), 1, 0, 1);
            edges("petition", GAP, args(town, 1), 1, 1, 3);
            edges("champion", NONE, args(town, 1), 1, 1, 60);
            edges("hold", NONE, args(town, 1), 1, 0, 60);
        }
        edges("town", GAP, args(0, 0), 0, 0, 1);
        edges("elected", NONE, args(0), 0, 0, 1);
        edges("drum", NONE, args(0, 0), 0, 0, 1);
        edges("will", GAP, args(0, 0), 0, 0, 1);
        edges("margin", NONE, args(0, 0), 0, 0, 1);
        beyond("ruin", NONE, args(0), 0, 0, 1);
        edges("petition", GAP, args(0, 1), 0, 0, 1);
        edges("champion", NONE, args(0, 1), 0, 0, 1);
        edges("hold", NONE, args(0, 1), 0, 0, 1);
        edges("from", NONE, args(0, 1), 0, 0, 1);
    }

    private void ofNone() throws Exception {
        edges("rests", NONE, args(1), 0, 1, 60);
        edges("treaties", NONE, args(0), 0, 0, 60);
        edges("odds", NONE, args(0, 0), 0, 0, 4);
        edges("odds", NONE, args(0, 0), 1, 0, 1);
        edges("odds", NONE, args(4, 0), 1, 0, 1);
        edges("later", NONE, args(0), 0, 0, 1000);
        edges("image", NONE, args(0), 0, 0, 2);
        edges("about", NONE, args(0), 0, 0, 11);
        edges("end", NONE, args(0), 0, 0, 20);
        can("fault", NONE, 0);
        beyond("fault", NONE, args(0), 0, 0, 1);
        beyond("back", NONE, args(0), 0, 0, 2);
        cannot("back", NONE, 1);
        for (int k : new int[] {LEAST, -1, 0, 1, LARGEST}) {
            can("fits", NONE, k);
        }
    }

    private void ofWhatIsThere() throws Exception {
        edges("concord", GAP, args(1), 0, 1, 60);
        edges("lies", -2, args(0), 0, 0, 2);
        edges("untell", 0, args(0), 0, 0, 1);
        can("back", NONE, 0);
        can("back", NONE, 2);
        edges("ask", -2, args(0, 0), 0, 0, 1);
        for (int k : new int[] {LEAST, -1, 0, LARGEST}) {
            can("ask", -2, 1, k);
        }
    }

    /** Of an empty RIVER: no DEED, PERSON or GROUP is there, with the least number either. */
    private void ofNothing() throws Exception {
        String[] none = {"person", "does", "group", "sway", "best", "feared"};
        for (String call : none) {
            beyond(call, NONE, args(0, 1), 0, 1, -1);
        }
        for (String call : new String[] {"votes", "force", "twins"}) {
            beyond(call, NONE, args(0), 0, 1, -1);
        }
        for (String call : new String[] {"deed", "total"}) {
            beyond(call, GAP, args(0, 1), 0, 1, -1);
        }
        beyond("drum", NONE, args(0, 0), 1, 1, -1);
        beyond("seen", NONE, args(-1, 0, 0), 1, 1, -1);
        beyond("holds", NONE, args(0, 0, 0), 0, 1, -1);
        beyond("pay", GAP, args(0, 0, 0, 0), 1, 1, -1);
        beyond("round", NONE, args(0, 0, 0), 1, 1, -1);
        beyond("mean", GAP, args(0, 0, 0), 1, 1, -1);
        for (int what = 0; what <= 2; what++) {
            cannot("fair", GAP, what);
        }
        for (int n = 1; n <= 60; n += 59) {
            cannot("concord", GAP, n);
            cannot("champion", NONE, 0, n);
            cannot("champion", NONE, 1, n);
        }
        for (int town = 0; town < 2; town++) {
            cannot("elected", NONE, town);
            cannot("margin", NONE, town, 0);
            cannot("margin", NONE, town, 1);
            cannot("petition", GAP, town, 1);
            can("town", GAP, town, 0);
            can("will", GAP, town, 60);
            can("hold", NONE, town, 60);
            can("from", NONE, town, 1);
        }
        cannot("ask", -2, 0, 0);
        cannot("ask", -2, 1, 0);
        cannot("lies", -2, 0);
        can("fits", NONE, 0);
    }

    public static void main(String[] args) throws Exception {
        String fewer = "deed x here bad 1 there bad 2;deed y here bad 3 there bad 4;person p of 0 first y;person q of 0 first x;"
                + "person r of 1 first x on y does y;person s of 1 first y;group g of 0 many 1;group h of 1 many 2;";
        ArgumentsTest full = new ArgumentsTest("full: ", 5, 8, 6, RefusedTest.FULL);
        ArgumentsTest less = new ArgumentsTest("fewer: ", 2, 4, 2, RefusedTest.FULL, RefusedTest.FULL, fewer);
        for (ArgumentsTest one : new ArgumentsTest[] {full, less}) {
            one.ofDeeds();
            one.ofPersons();
            one.ofTownsAndGroups();
            one.ofNone();
            one.ofWhatIsThere();
        }
        less.edges("ruin", NONE, ArgumentsTest.args(0), 0, 0, 1);
        ArgumentsTest empty = new ArgumentsTest("empty: ", 0, 0, 0, "");
        empty.ofNothing();
        empty.ofNone();
        ArgumentsTest emptied = new ArgumentsTest("emptied: ", 0, 0, 0, RefusedTest.FULL, RefusedTest.FULL, "");
        emptied.ofNothing();
        emptied.ofNone();
        Checks.close("ArgumentsTest");
    }
}
