/** Promises 1 to 5, and the FAULTS of a text. */
public final class TextTest {
    private static final String D = "deed d here good 1 there bad 2;";
    private static final String P = "person p of 0 first d";
    private static final String G = "group g of 0 many 1";

    private static void fault(String text, int code, int place) {
        FarBank bank = new FarBank();
        Checks.put(bank, text);
        String shown = "of '" + text + "'";
        Checks.due("river " + shown, bank.river(), -1);
        Checks.due("fault " + shown, bank.fault(0), code);
        Checks.due("place " + shown, bank.fault(1), place);
        Checks.due("bytes " + shown, bank.about(9), text.length());
        Checks.due("persons " + shown, bank.about(0), 0);
    }

    private static void fine(String text, int persons) {
        FarBank bank = new FarBank();
        Checks.put(bank, text);
        Checks.due("river of '" + text + "'", bank.river(), persons);
        Checks.due("fault of '" + text + "'", bank.fault(0), 0);
        Checks.due("place of '" + text + "'", bank.fault(1), -1);
        Checks.due("bytes of '" + text + "'", bank.about(9), 0);
    }

    private static String times(String what, int n) {
        StringBuilder s = new StringBuilder();
        for (int i = 0; i < n; i++) {
            s.append(what);
        }
        return s.toString();
    }

    private static void newObject() {
        FarBank bank = new FarBank();
        for (int what = 0; what <= 11; what++) {
            Checks.due("about(" + what + ") of a new object", bank.about(what), 0);
        }
        Checks.due("fault(0) of a new object", bank.fault(0), 0);
        Checks.due("fault(1) of a new object", bank.fault(1), -1);
        Checks.due("odds(4, 0) of a new object", bank.odds(4, 0), 1);
        Checks.due("hold(1, 60) of a new object", bank.hold(1, 60), 60);
        Checks.due("undo() of a new object", bank.undo(), false);
    }

    private static void tape() {
        FarBank bank = new FarBank();
        for (int i = 1; i <= 80; i++) {
            Checks.due("feed", bank.feed(0x20202020, 0x0a0a0a0a, 0x20202020, 0x20202020, 0x20202020), 20 * i);
        }
        Checks.due("feed on a full TAPE", bank.feed(0, 0, 0, 0, 0), -1);
        Checks.due("bytes", bank.about(9), 1600);
        Checks.due("end(1601)", bank.end(1601), -1);
        Checks.due("end(-1)", bank.end(-1), -1);
        Checks.due("end(1600)", bank.end(1600), 1600);
        Checks.due("end(1581)", bank.end(1581), 1581);
        Checks.due("feed over the rim", bank.feed(0, 0, 0, 0, 0), -1);
        Checks.due("end(1580)", bank.end(1580), 1580);
        Checks.due("feed up to the rim", bank.feed(0x20202020, 0x20202020, 0x20202020, 0x20202020, 0x2020203b), 1600);
        Checks.due("river", bank.river(), -1);
        Checks.due("fault(0)", bank.fault(0), 2);
        Checks.due("fault(1)", bank.fault(1), 1599);
        Checks.due("end(1599)", bank.end(1599), 1599);
        Checks.due("river of blanks", bank.river(), 0);
        Checks.due("fault(2)", bank.fault(2), -1);
        Checks.due("fault(-1)", bank.fault(-1), -1);
        Checks.due("bytes", bank.about(9), 0);
        // The highest byte comes first: "draw 71;" with a byte above 127 behind it.
        bank.feed(0x64726177, 0x2037313b, 0x80ff2020, 0x20202020, 0x20202020);
        Checks.due("river", bank.river(), -1);
        Checks.due("fault(0)", bank.fault(0), 1);
        Checks.due("fault(1)", bank.fault(1), 8);
        bank.end(8);
        Checks.due("river", bank.river(), 0);
        Checks.due("the SEED", bank.about(4), 71);
        bank.feed(0, 0, 0, 0, 0);
        Checks.due("end(0)", bank.end(0), 0);
        Checks.due("bytes", bank.about(9), 0);
        // TOKENS that end with the last byte that there can be.
        for (String last : new String[] {"vote", "draw 12", "vote 1 +"}) {
            FarBank full = new FarBank();
            Checks.put(full, times(" ", 1600 - last.length()) + last);
            Checks.due("river up to the rim", full.river(), -1);
            Checks.due("fault(0) at the rim", full.fault(0), 2);
            Checks.due("fault(1) at the rim", full.fault(1), 1600);
        }
    }

    private static void tokens() {
        fault("$", 1, 0);
        fault("\tdeed", 1, 0);
        fault("deed D", 1, 5);
        fault("deed abcdefghi here", 1, 5);
        fine("deed abcdefgh here good 1 there good 1;", 0);
        fault("draw 12345;", 1, 5);
        fault("draw 00001;", 1, 5);
        fine("draw 0999;", 0);
        fault("deed d here good 1there", 1, 17);
        fault("draw 1a", 1, 5);
        fault("draw 1z", 1, 5);
        fault("draw 1{", 1, 6);
        fine("deed d here good1 there bad2;", 0);
        fine("deed\nd here\n\ngood 1 there bad 2\n;", 0);
        fault("drawn 1;", 2, 0);
        fault("{", 1, 0);
        fault("vote 1 & 2;", 1, 7);
        // At one place the least.
        fault(times("vote 1", 1) + times("+1", 29) + "+$", 1, 65);
    }

    private static void misplaced() {
        fault("deed", 2, 4);
        fault("deed  \n", 2, 7);
        fault("deed here", 2, 5);
        fault("deed 1", 2, 5);
        fault("deed d here 1", 2, 12);
        fault("deed d there", 2, 7);
        fault("deed d here good 1 there bad 2", 2, 30);
        fault(";", 2, 0);
        fault("d", 2, 0);
        fault(D + ";", 2, D.length());
        for (String word : Model.WORDS) {
            fault("deed " + word, 2, 5);
            fault("person " + word, 2, 7);
            fault("group " + word, 2, 6);
        }
        fault(D + P + " on d;", 2, D.length() + P.length() + 5);
        fault(D + P + " does d;", 2, D.length() + P.length() + 1);
        fault("winter 1 1;", 2, 9);
        fault("draw;", 2, 4);
        fault(G + " pity;", 2, G.length() + 5);
        fault("vote ;", 2, 5);
        fault("vote 1 < 2 < 3;", 2, 11);
        fault("vote 1 + not 2;", 2, 9);
        fault("vote - 2;", 2, 5);
        fault("vote (1;", 2, 7);
        fault("vote 1);", 2, 6);
        fault("vote many;", 2, 5);
        fault("vote d;", 2, 5);
        fault("vote 1 2;", 2, 7);
    }

    private static void tooMany() {
        String deeds = "";
        for (char c = 'a'; c < 'f'; c++) {
            deeds += "deed " + c + " here good 1 there bad 2;";
        }
        fine(deeds, 0);
        fault(deeds + "\n deed a", 2, deeds.length() + 2);
        String persons = deeds;
        for (char c = 'a'; c < 'i'; c++) {
            persons += "person " + c + " of 1 first a;";
        }
        fine(persons, 8);
        fault(persons + "person $", 2, persons.length());
        String groups = "";
        for (char c = 'a'; c < 'g'; c++) {
            groups += "group " + c + " of 1 many 1;";
        }
        fine(groups, 0);
        fault(groups + "group a", 2, groups.length());
        fault("vote 1;vote 1;", 2, 7);
        fault("winter 1 of 1;winter 1 of 1;", 2, 14);
        fault("draw 1;draw 1;", 2, 7);
    }

    private static void units() {
        fine("vote 1" + times("+1", 29) + ";", 0);
        fault("vote 1" + times("+1", 30) + ";", 2, 65);
        fine("vote 1" + times("+(1)", 14) + "+1;", 0);
        fault("vote (1" + times("+1", 29) + ");", 2, 64);
        fine("vote " + times("(", 7) + "1" + times(")", 7) + ";", 0);
        fault("vote " + times("(", 8) + "1" + times(")", 8) + ";", 2, 12);
        fine("vote " + times("not ", 7) + "1;", 0);
        fault("vote " + times("not ", 8) + "1;", 2, 33);
        fine("vote " + times("not (", 3) + "not 1" + times(")", 3) + ";", 0);
        fault("vote " + times("not(", 3) + "not(1" + times(")", 4) + ";", 2, 20);
        fault("vote " + times("not(", 3) + "not not 1" + times(")", 3) + ";", 2, 21);
        FarBank bank = Checks.told("vote (here + 1) * not_".replace("not_", "(not 3)") + ";");
        Checks.due("units", bank.about(10), 5);
    }

    private static void namesAndNumbers() {
        fault(D + "deed d here", 3, D.length() + 5);
        fault(D + P + ";" + P, 3, D.length() + P.length() + 8);
        fault(G + ";" + G, 3, G.length() + 7);
        fine(D + "person d of 0 first d;group d of 1 many 1;", 1);
        fault(D + P + " on d does d on d does d;", 3, D.length() + P.length() + 16);
        fault(D + "person p of 0 first e;", 5, D.length() + 20);
        fault(D + P + " on e does d;", 5, D.length() + P.length() + 4);
        fault(D + P + " on d does e;", 5, D.length() + P.length() + 11);
        fault("person p of 0 first d;" + D, 5, 20);
        fault("deed d here good 51 $", 4, 17);
        fault("deed d here bad 51", 4, 16);
        fault("deed d here good 50 there bad 51", 4, 30);
        fault("person p of 2", 4, 12);
        fault("group g of 2", 4, 11);
        fault("group g of 0 many 0;", 4, 18);
        fault("group g of 0 many 100;", 4, 18);
        fault("group g of 0 many 99 pity 10;", 4, 26);
        fault("winter 101 of 1;", 4, 7);
        fault("winter 100 of 0;", 4, 14);
        fault("winter 100 of 51;", 4, 14);
        fault("draw 1000;", 4, 5);
        fine("winter 100 of 50;draw 999;" + G + " pity 9;", 0);
        fine("winter 0 of 1;draw 0;vote 9999;", 0);
    }

    private static void allNew() {
        FarBank bank = Checks.told(D + P + ";person q of 1 first d;winter 100 of 1;draw 5;");
        bank.elect();
        bank.season();
        bank.concord(3);
        bank.seen(-1, 0, true);
        bank.later(7);
        bank.image(2);
        Checks.put(bank, "draw 9");
        Checks.due("river with a FAULT", bank.river(), -1);
        Checks.due("persons stay", bank.about(0), 2);
        Checks.due("the season stays", bank.about(3), 1);
        Checks.due("ACTS stay", bank.about(5), 2);
        Checks.due("what lies there stays", bank.about(11), 2);
        Checks.put(bank, "" + ";");
        Checks.due("river", bank.river(), 0);
        Checks.due("fault(0)", bank.fault(0), 0);
        Checks.due("fault(1)", bank.fault(1), -1);
        int[] want = {0, 0, 0, 0, 9, 0, 0, 0, 7, 0, 0, 0};
        for (int what = 0; what < want.length; what++) {
            Checks.due("about(" + what + ") behind a new river", bank.about(what), want[what]);
        }
        Checks.due("back(2)", bank.back(2), -1);
        Checks.due("undo", bank.undo(), false);
        Checks.due("WEAL", bank.town(0, 0), 0);
        Checks.due("SPEAKER", bank.town(1, 1), -1);
        Checks.due("DEED done", bank.town(1, 2), -1);
        Checks.due("odds", bank.odds(1, 0), 1);
        Checks.due("river of an empty TAPE", bank.river(), 0);
    }

    public static void main(String[] args) {
        newObject();
        tape();
        tokens();
        misplaced();
        tooMany();
        units();
        namesAndNumbers();
        allNew();
        Checks.close("TextTest");
    }
}
