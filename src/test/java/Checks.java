/** What the tests share: a count of wrong answers, and objects of a text. */
final class Checks {
    private static int checked = 0;
    private static int wrong = 0;

    private Checks() {
    }

    static void due(String call, long got, long want) {
        checked++;
        if (got != want) {
            wrong++;
            System.out.println(call + " answered " + got + ", due is " + want);
        }
    }

    static void due(String call, boolean got, boolean want) {
        due(call, got ? 1 : 0, want ? 1 : 0);
    }

    static void close(String name) {
        System.out.println(name + ": " + checked + " checks, " + wrong + " wrong");
        if (wrong != 0) {
            System.exit(1);
        }
    }

    /** Puts a text on the TAPE as it is, whatever lies there already. */
    static void put(FarBank bank, String text) {
        int before = bank.about(9);
        for (int i = 0; i < text.length(); i += 20) {
            int[] five = new int[5];
            for (int j = 0; j < 20; j++) {
                int c = i + j < text.length() ? text.charAt(i + j) & 255 : 32;
                five[j / 4] = five[j / 4] << 8 | c;
            }
            bank.feed(five[0], five[1], five[2], five[3], five[4]);
        }
        bank.end(before + text.length());
    }

    static FarBank told(String text) {
        FarBank bank = new FarBank();
        put(bank, text);
        if (bank.river() < 0) {
            due("fault " + bank.fault(0) + " at " + bank.fault(1) + " of: " + text, -1, 0);
        }
        return bank;
    }
}
