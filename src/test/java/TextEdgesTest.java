/** The bounds of a RIVER's text: just below, at and just above each, with the FAULT and its place. */
public final class TextEdgesTest {
    private static final String A = "deed a here good 1 there good 1;";
    private static final String B = "deed b here good 2 there good 2;";

    private static FarBank read(String text, boolean isFine) {
        FarBank bank = new FarBank();
        Checks.put(bank, text);
        Checks.due("river of '" + text + "' can be", bank.river() >= 0, isFine);
        return bank;
    }

    private static FarBank fine(String text) {
        FarBank bank = read(text, true);
        Checks.due("FAULT of '" + text + "'", bank.fault(0), 0);
        Checks.due("place in '" + text + "'", bank.fault(1), -1);
        return bank;
    }

    private static void fault(String text, int code, int place) {
        FarBank bank = read(text, false);
        Checks.due("FAULT of '" + text + "'", bank.fault(0), code);
        Checks.due("place in '" + text + "'", bank.fault(1), place);
    }

    /** The FAULT is where the sign ^ stands, which is no part of the text. */
    private static void faultAt(String marked, int code) {
        fault(marked.replace("^", ""), code, marked.indexOf('^'));
    }

    private static String times(String what, int n) {
        return what.repeat(n);
    }

    // ---- bytes

    private static boolean isSign(int b) {
        return b > 0 && ";()<>=+-*/%".indexOf(b) >= 0;
    }

    /** Any byte at all where a line could begin, in a line, directly behind a word, directly behind an N, and at the end. */
    private static void eachByte() {
        for (int b = 0; b < 256; b++) {
            String one = String.valueOf((char) b);
            boolean blank = b == 32 || b == 10;
            boolean letter = b >= 'a' && b <= 'z';
            boolean digit = b >= '0' && b <= '9';
            boolean token = letter || digit || isSign(b);
            if (blank) {
                fine(one);
                fine("draw" + one + "7;");
                fine("draw 7" + one + ";");
                fault("vote" + one, 2, 5);
            } else {
                fault(one, token ? 2 : 1, 0);
                fault(A + one, token ? 2 : 1, A.length());
            }
            if (!blank && !digit) {
                fault("draw " + one + " 7;", token ? 2 : 1, 5);
                fault("draw" + one + " 7;", letter ? 2 : token ? 2 : 1, letter ? 0 : 4);
                if (b != ';') {
                    fault("draw 7" + one + ";", letter ? 1 : token ? 2 : 1, letter ? 5 : 6);
                    fault("draw 7 " + one + ";", token ? 2 : 1, 7);
                }
            }
        }
        fine("draw7;");
        fine("\n draw\n\n7 \n;\n");
        fault("\n draw\n\n7 \n", 2, 11);
    }

    /** Bytes that come behind the n-th of end() are none of the text. */
    private static void cutShort() {
        FarBank bank = new FarBank();
        Checks.put(bank, "draw 7;draw 8;");
        bank.end(7);
        Checks.due("river", bank.river(), 0);
        Checks.due("SEED", bank.about(4), 7);
        Checks.put(bank, "draw 85;");
        bank.end(6);
        Checks.due("river", bank.river(), -1);
        Checks.due("FAULT", bank.fault(0), 2);
        Checks.due("its place", bank.fault(1), 6);
        Checks.due("the SEED stays", bank.about(4), 7);
        Checks.put(bank, ";");
        Checks.due("river", bank.river(), 0);
        Checks.due("SEED", bank.about(4), 8);
    }

    // ---- TOKENS

    private static void lettersOfAWord() {
        for (String sort : new String[] {"deed # here good 1 there good 1;", A + "person # of 0 first a;", "group # of 0 many 1;"}) {
            for (int n = 1; n <= 8; n++) {
                fine(sort.replace("#", times("z", n)));
            }
            for (int n = 9; n <= 40; n++) {
                fault(sort.replace("#", times("z", n)), 1, sort.indexOf('#'));
            }
        }
        fine("deed aaaaaaaa here good 1 there good 1;person p of 0 first aaaaaaaa on aaaaaaaa does aaaaaaaa;");
        // Names that are the same but for their last letter, or by which one goes on where the other ends.
        fine("deed aaaaaaaa here good 1 there good 1;deed aaaaaaab here good 1 there good 1;deed aaaaaaa here good 1 there good 1;");
        faultAt(A + "person p of 0 first ^aaaaaaaaa;", 1);
        faultAt(A + "person p of 0 first ^aa;", 5);
        faultAt(A + "person p of 0 first a on ^aaaaaaaaa does a;", 1);
        faultAt(A + "person p of 0 first a on a does ^aaaaaaaaa;", 1);
        faultAt("^deeddeeds", 1);
        faultAt("^deeddeed", 2);
        faultAt("deed a ^hereheres", 1);
        faultAt("deed a ^heres", 2);
        faultAt("deed a ^her", 2);
        faultAt("vote ^herethere", 1);
        faultAt("vote ^hereher", 2);
        faultAt("vote here ^andhere", 2);
        faultAt("vote ^nothere", 2);
    }

    /** No word of the grammar is a NAME, wherever one is due; those that stand for what the grammar is made of are. */
    private static void wordsOfTheGrammar() {
        String five = rows("deed # here good 1 there good 1;", 5);
        for (String word : Model.WORDS) {
            faultAt("deed ^" + word + " here good 1 there good 1;", 2);
            faultAt(A + "person ^" + word + " of 0 first a;", 2);
            faultAt("group ^" + word + " of 0 many 1;", 2);
            faultAt(A + "person p of 0 first ^" + word + ";", 2);
            faultAt(A + "person p of 0 first a on ^" + word + " does a;", 2);
            faultAt(A + "person p of 0 first a on a does ^" + word + ";", 2);
            fine("deed x" + word + " here good 1 there good 1;");
            fine("deed " + word + "x here good 1 there good 1;");
            fine("deed " + word.substring(1) + "q here good 1 there good 1;");
            boolean begins = "deed person group vote winter draw".contains(word) && word.length() > 3;
            fault(five + word, 2, begins && !word.equals("deed") ? five.length() + word.length() : five.length());
        }
        Checks.due("words of the grammar", Model.WORDS.size(), 21);
        for (String word : new String[] {"e", "line", "both", "one", "sum", "term", "unit", "river", "n", "name", "town", "speaker", "deeds", "ons"}) {
            fine("deed " + word + " here good 1 there good 1;person " + word + " of 0 first " + word + " on " + word + " does " + word + ";group " + word + " of 0 many 1;");
        }
    }

    /** Each sort is numbered by itself, as told, whatever lines stand between. */
    private static void numberedAsTold() {
        FarBank bank = fine("group z of 1 many 9;" + B + "person z of 1 first b;draw 3;" + A + "person y of 0 first a;winter 5 of 6;group y of 0 many 8 pity 7;"
                + "person x of 1 first b on a does a;vote 1;deed x here bad 3 there bad 4;group x of 1 many 7;");
        int[][] deeds = {{2, 2}, {1, 1}, {-3, -4}};
        int[][] persons = {{1, 0}, {0, 1}, {1, 0}};
        int[][] groups = {{1, 9, 0}, {0, 8, 7}, {1, 7, 0}};
        for (int i = 0; i < 3; i++) {
            for (int what = 0; what < 2; what++) {
                Checks.due("deed(" + i + ", " + what + ")", bank.deed(i, what), deeds[i][what]);
                Checks.due("person(" + i + ", " + what + ")", bank.person(i, what), persons[i][what]);
            }
            for (int what = 0; what < 3; what++) {
                Checks.due("group(" + i + ", " + what + ")", bank.group(i, what), groups[i][what]);
            }
        }
        Checks.due("does(2, 1)", bank.does(2, 1), 1);
        Checks.due("does(2, 0)", bank.does(2, 0), 0);
        Checks.due("on a DEED told later", bank.does(2, 2), 0);
        Checks.due("SEED", bank.about(4), 3);
        Checks.due("winters", bank.hold(0, 1), 6);
        Checks.due("units", bank.about(10), 1);
    }

    private static void digitsOfANumber() {
        for (String n : new String[] {"0", "7", "07", "007", "0007", "999", "0999"}) {
            Checks.due("SEED by " + n, fine("draw " + n + ";").about(4), Integer.parseInt(n));
        }
        for (String n : new String[] {"00007", "12345", "99999", "2147483647", "2147483648", "4294967296", "4294967303", "99999999999999999999"}) {
            faultAt("draw ^" + n + ";", 1);
            faultAt("vote ^" + n + ";", 1);
            faultAt("deed d here good ^" + n + " there good 1;", 1);
        }
        fine("vote 9999;");
        fine("vote 0000;");
        faultAt("draw ^1000;", 4);
        faultAt("draw ^9999;", 4);
        faultAt("draw ^9999", 4);
        faultAt("draw ^9999a;", 1);
        faultAt("vote ^9and 1;", 1);
        faultAt("vote ^9or 1;", 1);
        fine("vote 9 or 1;");
        fine("vote not1;");
        fine("vote 1and1;".replace("1and", "1 and"));
        fine("vote here-1;");
        fine("vote(here)and(there)or 1;");
        faultAt("group g of ^0many 1;", 1);
        fine("group g of0 many1 pity2;");
    }

    // ---- how many, and which numbers

    private static String rows(String sort, int n) {
        StringBuilder s = new StringBuilder();
        for (int i = 0; i < n; i++) {
            s.append(sort.replace('#', (char) ('a' + i)));
        }
        return s.toString();
    }

    private static void howMany() {
        String deed = "deed # here good 1 there good 1;";
        String person = "person # of 1 first a;";
        String group = "group # of 1 many 1;";
        for (int n = 0; n <= 5; n++) {
            Checks.due("DEEDS", fine(rows(deed, n)).about(1), n);
        }
        for (int n = 0; n <= 8; n++) {
            Checks.due("PERSONS", fine(A + rows(person, n)).about(0), n);
        }
        for (int n = 0; n <= 6; n++) {
            Checks.due("GROUPS", fine(rows(group, n)).about(2), n);
        }
        // At the line's first word, whatever is behind it: nothing, no TOKEN, a name that is told already.
        for (String rest : new String[] {"", " $", " a", " z here good 1 there good 1;", ";"}) {
            fault(rows(deed, 5) + "deed" + rest, 2, rows(deed, 5).length());
            fault(A + rows(person, 8) + "person" + rest, 2, A.length() + rows(person, 8).length());
            fault(rows(group, 6) + "group" + rest, 2, rows(group, 6).length());
            fault("vote 1;vote" + rest, 2, 7);
            fault("winter 1 of 1;winter" + rest, 2, 14);
            fault("draw 1;draw" + rest, 2, 7);
        }
        // A longer word is none of these.
        faultAt(rows(deed, 5) + "^deeds", 2);
        faultAt(rows(deed, 5) + "^deedsdeeds", 1);
        // One sort that is full leaves room for the others.
        FarBank bank = fine(rows(deed, 5) + rows(person, 8) + rows(group, 6) + "vote 1;winter 1 of 1;draw 1;");
        Checks.due("PERSONS", bank.about(0), 8);
        Checks.due("GROUPS", bank.about(2), 6);
        // Any order of lines, DEEDS ahead of who does them.
        fine("draw 1;vote 1;" + rows(group, 6) + "winter 1 of 1;" + A + "person p of 0 first a;" + B + "person q of 0 first b on a does b;");
        faultAt("draw 1;person p of 0 first ^a;" + A, 5);
        faultAt(A + "person p of 0 first a on ^b does a;" + B, 5);
        faultAt(A + "person p of 0 first a on a does ^b;" + B, 5);
        // A PERSON or GROUP is no DEED.
        faultAt(A + "person p of 0 first ^p;", 5);
        faultAt(A + "group g of 0 many 1;person p of 0 first ^g;", 5);
    }

    /** A number from least to most stands at the sign #. */
    private static void range(String text, int least, int most) {
        for (int n : new int[] {least, least + 1, most - 1, most}) {
            if (n >= least) {
                fine(text.replace("#", String.valueOf(n)));
            }
        }
        for (int n : new int[] {least - 1, 0, most + 1, most + 2, 9999}) {
            if (n >= 0 && (n < least || n > most)) {
                fault(text.replace("#", String.valueOf(n)), 4, text.indexOf('#'));
            }
        }
        fault(text.replace("#", "").replace("  ", " "), 2, text.indexOf('#'));
        faultAt(text.replace("#", "^x"), 2);
        faultAt(text.replace("#", "^-1"), 2);
        faultAt(text.replace("#", "^00000"), 1);
    }

    private static void whichNumbers() {
        range("deed d here good # there bad 1;", 0, 50);
        range("deed d here bad # there bad 1;", 0, 50);
        range("deed d here good 1 there good # ;", 0, 50);
        range("deed d here good 1 there bad # ;", 0, 50);
        range(A + "person p of # first a;", 0, 1);
        range("group g of # many 1;", 0, 1);
        range("group g of 0 many # ;", 1, 99);
        range("group g of 0 many # pity 1;", 1, 99);
        range("group g of 0 many 1 pity # ;", 0, 9);
        range("winter # of 1;", 0, 100);
        range("winter 1 of # ;", 1, 50);
        range("draw # ;", 0, 999);
        int[] worth = {0, 1, 49, 50};
        for (int n : worth) {
            FarBank bank = fine("deed d here good " + n + " there bad " + n + ";deed e here bad " + n + " there good " + n + ";");
            Checks.due("good here", bank.deed(0, 0), n);
            Checks.due("bad there", bank.deed(0, 1), -n);
            Checks.due("bad here", bank.deed(1, 0), -n);
            Checks.due("good there", bank.deed(1, 1), n);
        }
        FarBank bank = fine("group g of 1 many 99 pity 9;group h of 0 many 1;group i of 1 many 1 pity 0;");
        Checks.due("many", bank.group(0, 1), 99);
        Checks.due("pity", bank.group(0, 2), 9);
        Checks.due("pity not told", bank.group(1, 2), 0);
        Checks.due("pity 0", bank.group(2, 2), 0);
    }

    /** What is not told is as if no RIVER had been there before, whichever rows were used for that. */
    private static void notTold() {
        FarBank bank = new FarBank();
        for (int i = 0; i < 4; i++) {
            Checks.put(bank, RefusedTest.FULL);
            Checks.due("river", bank.river(), 8);
            if (i % 2 == 1) {
                Checks.put(bank, RefusedTest.FULL + "$");
                Checks.due("river", bank.river(), -1);
                bank.end(0);
            }
            Checks.put(bank, A + B + "person p of 0 first b;person q of 0 first a;group g of 0 many 1;group h of 0 many 1;");
            Checks.due("river", bank.river(), 2);
            Checks.due("first, on what nothing is told", bank.does(0, 0), 1);
            Checks.due("first, on what nothing is told", bank.does(0, 1), 1);
            Checks.due("pity", bank.group(1, 2), 0);
            Checks.due("no vote: here less there, the first of like ones", bank.group(1, 3), 0);
            Checks.due("units", bank.about(10), 0);
            Checks.due("SEED", bank.about(4), 0);
            Checks.due("no winters", bank.odds(4, 0), 1);
            Checks.due("winters of 1", bank.hold(1, 60), 60);
            Checks.due("DEEDS", bank.about(1), 2);
        }
    }

    /** NAMES of a RIVER that was, or of a text with a FAULT, are told by nobody in the next one. */
    private static void namesOfBefore() {
        String five = rows("deed # here good 1 there good 1;", 5);
        String[] before = {five, five + "draw 1;draw", five.replace(" e ", " f ") + "person e of 0 first f;"};
        for (String first : before) {
            for (char c = 'b'; c <= 'f'; c++) {
                for (String line : new String[] {"person p of 0 first #;", "person p of 0 first a on # does a;", "person p of 0 first a on a does #;"}) {
                    FarBank bank = new FarBank();
                    Checks.put(bank, first);
                    bank.river();
                    bank.end(0);
                    Checks.put(bank, A + line.replace('#', c));
                    Checks.due("river of " + line + " with " + c, bank.river(), -1);
                    Checks.due("FAULT", bank.fault(0), 5);
                    Checks.due("its place", bank.fault(1), A.length() + line.indexOf('#'));
                    bank.end(0);
                    Checks.put(bank, A + B + line.replace('#', 'b') + "person a of 0 first b;person b of 0 first a;group a of 0 many 1;");
                    Checks.due("river of " + line + " with b told", bank.river(), 3);
                }
            }
        }
    }

    // ---- units, and what is within others

    private static void howManyUnits() {
        for (int n = 1; n <= 30; n++) {
            Checks.due("units", fine("vote 1" + times("-here", n - 1) + ";").about(10), n);
        }
        for (String join : new String[] {" or ", " and ", "+", "-", "*", "/", "%"}) {
            String ahead = "vote season" + times(join + "terms", 28);
            fine(ahead + join + "pity;");
            fault(ahead + join + "pity" + join + "there;", 2, ahead.length() + 2 * join.length() + 4);
            fault(ahead + join + "pity" + join + "$;", 1, ahead.length() + 2 * join.length() + 4);
            fault(ahead + join + "pity" + join + ";", 2, ahead.length() + 2 * join.length() + 4);
        }
        String ahead = "vote 1" + times("+1", 28);
        fine(ahead + "=1;");
        faultAt(ahead + "=1+^1;", 2);
        faultAt(ahead + "=1 and not ^1;", 2);
        faultAt(ahead + "+(^1);", 2);
        faultAt(ahead + "+1+^(1);", 2);
        faultAt(ahead + "+1 and not not ^(1);", 2);
        faultAt(ahead + "+1+^1$", 2);
        // A unit ( e ) is one, and so is each in it.
        Checks.due("units", fine("vote (1);").about(10), 2);
        Checks.due("units", fine("vote (((1)));").about(10), 4);
        Checks.due("units", fine("vote not not 1;").about(10), 1);
        Checks.due("units", fine("vote " + times("(1)+", 14) + "(1);").about(10), 30);
        faultAt("vote " + times("(1)+", 15) + "^1;", 2);
        faultAt("vote " + times("(1)+", 14) + "(1+^1);", 2);
        Checks.due("units without a vote", fine(A).about(10), 0);
    }

    private static void within() {
        for (int n = 0; n <= 7; n++) {
            fine("vote " + times("(", n) + "1" + times(")", n) + ";");
            fine("vote " + times("not ", n) + "1;");
            fine("vote " + times("not ", n) + times("(", 7 - n) + "1" + times(")", 7 - n) + ";");
            fine("vote " + times("(", n) + times("not ", 7 - n) + "1" + times(")", n) + ";");
            faultAt("vote " + times("not ", n) + times("(", 7 - n) + "^(1" + times(")", 8 - n) + ";", 2);
            faultAt("vote " + times("not ", n) + times("(", 7 - n) + "^not 1" + times(")", 7 - n) + ";", 2);
            faultAt("vote " + times("(", n) + times("not ", 7 - n) + "^(1)" + times(")", n) + ";", 2);
            faultAt("vote " + times("(", n) + times("not ", 7 - n) + "^not 1" + times(")", n) + ";", 2);
            faultAt("vote " + times("(", n) + times("not ", 7 - n) + "^not", 2);
        }
        // What stands beside is not within: as deep once more behind it.
        String deep = times("(", 7) + "1" + times(")", 7);
        fine("vote " + deep + "+" + deep + ";");
        fine("vote " + times("not ", 7) + "1 and " + times("not ", 7) + "1;");
        fine("vote " + times("not(", 3) + "1" + times(")", 3) + " or " + times("not(", 3) + "not 1" + times(")", 3) + ";");
        faultAt("vote " + deep + "+" + times("(", 7) + "^(1", 2);
        faultAt("vote " + times("not ", 7) + "1 or " + times("not ", 7) + "^not 1;", 2);
        // A relation is within all that its left side is within, its right side too.
        faultAt("vote " + times("not ", 7) + "1=^(1);", 2);
        faultAt("vote " + times("not ", 7) + "1+1*^(1);", 2);
        fine("vote " + times("not ", 6) + "1=(1);");
        fine("vote " + times("not ", 7) + "1 and (1);");
    }

    // ---- FAULTS

    private static void theFirstByPlace() {
        // Two in one text: the first one counts, of whichever sort it is.
        String[] marked = {"^$", "^1", "draw ^1000", "deed d here good 1 there good 1;deed ^d", "person p of 0 first ^d"};
        int[] codes = {1, 2, 4, 3, 5};
        String[] behind = {"$", " 1", " ;draw 1000;", ";person p of 0 first z;"};
        for (int i = 0; i < marked.length; i++) {
            faultAt(marked[i], codes[i]);
            for (String rest : behind) {
                faultAt(marked[i] + " " + rest, codes[i]);
            }
        }
        // A second DEED behind on, which is told already or by no one.
        faultAt(A + B + "person p of 0 first a on a does b on ^a does z;", 3);
        faultAt(A + B + "person p of 0 first a on a does ^z on a does b;", 5);
        faultAt(A + B + "person p of 0 first a on ^z does a;", 5);
        fine(A + B + "person p of 0 first a on a does b on b does b;");
        faultAt(A + B + "person p of 0 first a on a does b on b does b on ^b does a;", 3);
        String five = rows("deed # here good 1 there good 1;", 5);
        String all = "person p of 0 first a on a does a on b does a on c does a on d does a on e does a";
        fine(five + all + ";");
        for (char c = 'a'; c < 'f'; c++) {
            faultAt(five + all + " on ^" + c + " does a;", 3);
        }
        faultAt(five + all + " on ^f does a;", 5);
        faultAt(five + all + " on ^;", 2);
        // A second PERSON may be told on the same DEEDS again.
        fine(five + all + ";" + all.replace("person p", "person q") + ";");
        // A NAME of its sort that is told already, the last one too.
        for (char c = 'a'; c < 'e'; c++) {
            faultAt(rows("deed # here good 1 there good 1;", 4) + "deed ^" + c + " here good 1 there good 1;", 3);
        }
        faultAt(A + rows("person # of 0 first a;", 7) + "person ^g of 0 first a;", 3);
        faultAt(rows("group # of 0 many 1;", 5) + "group ^e of 0 many 1;", 3);
        fine(A + "person a of 0 first a;group a of 0 many 1;");
    }

    /** A unit, or what it goes on with, left out of a vote: the FAULT is at what stands there. */
    private static void noUnit() {
        for (String join : new String[] {" or ", " and ", "<", ">", "=", "+", "-", "*", "/", "%"}) {
            faultAt("vote here" + join + "^;", 2);
            faultAt("vote here" + join + "^);", 2);
            faultAt("vote (here" + join + "^);", 2);
            faultAt("vote ^" + join.trim() + " here;", 2);
            faultAt("vote (^" + join.trim() + " here);", 2);
            faultAt("vote here" + join + "^" + join.trim() + " here;", 2);
            faultAt("vote here" + join + "^draw;", 2);
        }
        faultAt("vote not ^;", 2);
        faultAt("vote not not ^;", 2);
        faultAt("vote (not ^);", 2);
        faultAt("vote (^);", 2);
        faultAt("vote (here^;", 2);
        faultAt("vote here^);", 2);
        faultAt("vote here ^not here;", 2);
        faultAt("vote here + ^not here;", 2);
        faultAt("vote here < ^not here;", 2);
        faultAt("vote here < there ^< 1;", 2);
        faultAt("vote here = there ^> 1;", 2);
        fine("vote here and not here or not there;");
        fine("vote (here < there) < 1;");
    }

    /** A text that ends too early has its FAULT at its end, blanks and all. */
    private static void tooEarly() {
        String[] lines = {"deed d here good 1 there bad 2 ;", "group g of 0 many 1 pity 2 ;", "winter 1 of 2 ;", "draw 3 ;", "vote not ( 1 + here ) < 2 ;"};
        for (String line : lines) {
            String[] tokens = line.split(" ");
            StringBuilder s = new StringBuilder();
            for (int i = 0; i < tokens.length - 1; i++) {
                s.append(tokens[i]);
                fault(s.toString(), 2, s.length());
                fault(s + "\n ", 2, s.length() + 2);
                s.append(' ');
            }
            fine(line);
        }
        String person = "person p of 0 first a on a does a ;";
        StringBuilder s = new StringBuilder(A);
        String[] tokens = person.split(" ");
        for (int i = 0; i < tokens.length - 1; i++) {
            s.append(tokens[i]);
            fault(s.toString(), 2, s.length());
            s.append(' ');
        }
        fine(A + person);
        fine("");
        fine(" ");
        fine("\n");
    }

    /** Each TOKEN of a line left out: the FAULT is where the next one stands then. */
    private static void leftOut() {
        String[] lines = {"deed d here good 1 there bad 2 ;", "group g of 0 many 1 pity 2 ;", "winter 1 of 2 ;", "draw 3 ;"};
        for (String line : lines) {
            String[] tokens = line.split(" ");
            int place = 0;
            for (int out = 0; out < tokens.length; out++) {
                StringBuilder s = new StringBuilder();
                for (int i = 0; i < tokens.length; i++) {
                    s.append(i == out ? "" : tokens[i] + " ");
                }
                fault(s + "draw;", 2, place);
                place += tokens[out].length() + 1;
            }
        }
    }

    public static void main(String[] args) {
        eachByte();
        cutShort();
        lettersOfAWord();
        wordsOfTheGrammar();
        numberedAsTold();
        digitsOfANumber();
        howMany();
        whichNumbers();
        notTold();
        namesOfBefore();
        howManyUnits();
        within();
        theFirstByPlace();
        noUnit();
        tooEarly();
        leftOut();
        Checks.close("TextEdgesTest");
    }
}
