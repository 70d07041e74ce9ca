import java.math.BigInteger;
import java.util.ArrayList;
import java.util.Arrays;
import java.util.HashMap;
import java.util.HashSet;
import java.util.LinkedHashMap;
import java.util.List;
import java.util.Map;
import java.util.Set;

/** The document once more, in other words and without a thought for room: what FarBank is held against. */
final class Model {
    static final int NONE = -1;
    static final int GAP = -1000000000;
    static final Set<String> WORDS = new HashSet<>(Arrays.asList("deed", "here", "good", "bad", "there", "person", "of",
            "first", "on", "does", "group", "many", "pity", "vote", "winter", "draw", "or", "and", "not", "terms", "season"));

    static final class Fault extends RuntimeException {
        private static final long serialVersionUID = 1L;
        final int code;
        final int place;

        Fault(int code, int place) {
            this.code = code;
            this.place = place;
        }
    }

    record Token(String text, int place, boolean broken) {
        boolean isNumber() {
            return !broken && !text.isEmpty() && Character.isDigit(text.charAt(0));
        }

        boolean isName() {
            return !broken && !text.isEmpty() && text.charAt(0) >= 'a' && text.charAt(0) <= 'z' && !WORDS.contains(text);
        }

        boolean is(String s) {
            return !broken && text.equals(s);
        }
    }

    interface Node {
        int value(Map<String, Integer> by);
    }

    static final class Told {
        final LinkedHashMap<String, int[]> deeds = new LinkedHashMap<>();
        final List<String> deedNames = new ArrayList<>();
        final List<String> personNames = new ArrayList<>();
        final List<int[]> persons = new ArrayList<>();
        final List<Map<Integer, Integer>> on = new ArrayList<>();
        final List<String> groupNames = new ArrayList<>();
        final List<int[]> groups = new ArrayList<>();
        Node vote;
        int units;
        int rate = 0;
        int cost = 1;
        int draw = 0;
        boolean winterTold;
        boolean drawTold;

        int here(int d) {
            return d < 0 ? 0 : deeds.get(deedNames.get(d))[0];
        }

        int there(int d) {
            return d < 0 ? 0 : deeds.get(deedNames.get(d))[1];
        }

        int react(int p, int d) {
            return on.get(p).getOrDefault(d, persons.get(p)[1]);
        }

        List<Integer> of(int town) {
            List<Integer> all = new ArrayList<>();
            for (int p = 0; p < persons.size(); p++) {
                if (persons.get(p)[0] == town) {
                    all.add(p);
                }
            }
            return all;
        }
    }

    static final class Parser {
        final List<Token> tokens = new ArrayList<>();
        final Told out = new Told();
        int at = 0;

        Parser(String text) {
            int i = 0;
            while (i < text.length()) {
                char c = text.charAt(i);
                if (c == ' ' || c == '\n') {
                    i++;
                    continue;
                }
                int j = i + 1;
                boolean broken = false;
                if (c >= 'a' && c <= 'z') {
                    while (j < text.length() && text.charAt(j) >= 'a' && text.charAt(j) <= 'z') {
                        j++;
                    }
                    broken = j - i > 8;
                } else if (c >= '0' && c <= '9') {
                    while (j < text.length() && text.charAt(j) >= '0' && text.charAt(j) <= '9') {
                        j++;
                    }
                    broken = j - i > 4 || j < text.length() && text.charAt(j) >= 'a' && text.charAt(j) <= 'z';
                } else {
                    broken = ";()<>=+-*/%".indexOf(c) < 0;
                }
                tokens.add(new Token(text.substring(i, j), i, broken));
                i = j;
            }
            tokens.add(new Token("", text.length(), false));
        }

        Token look() {
            return tokens.get(at);
        }

        Fault fault(int code) {
            return new Fault(look().broken ? 1 : code, look().place);
        }

        void word(String s) {
            if (!look().is(s)) {
                throw fault(2);
            }
            at++;
        }

        int number(int low, int high) {
            if (!look().isNumber()) {
                throw fault(2);
            }
            int v = Integer.parseInt(look().text);
            if (v < low || v > high) {
                throw fault(4);
            }
            at++;
            return v;
        }

        String fresh(List<String> names) {
            if (!look().isName()) {
                throw fault(2);
            }
            if (names.contains(look().text)) {
                throw fault(3);
            }
            return tokens.get(at++).text;
        }

        int known() {
            if (!look().isName()) {
                throw fault(2);
            }
            int d = out.deedNames.indexOf(look().text);
            if (d < 0) {
                throw fault(5);
            }
            at++;
            return d;
        }

        int worth() {
            int sign = look().is("good") ? 1 : look().is("bad") ? -1 : 0;
            if (sign == 0) {
                throw fault(2);
            }
            at++;
            return sign * number(0, 50);
        }

        Told parse() {
            while (!look().is("")) {
                line();
                word(";");
            }
            return out;
        }

        void line() {
            Token t = look();
            if (t.is("deed") && out.deeds.size() < 5) {
                at++;
                String name = fresh(out.deedNames);
                word("here");
                int here = worth();
                word("there");
                int there = worth();
                out.deedNames.add(name);
                out.deeds.put(name, new int[] {here, there});
            } else if (t.is("person") && out.persons.size() < 8) {
                at++;
                String name = fresh(out.personNames);
                word("of");
                int town = number(0, 1);
                word("first");
                int first = known();
                Map<Integer, Integer> on = new HashMap<>();
                while (look().is("on")) {
                    at++;
                    int d = known();
                    if (on.containsKey(d)) {
                        at--;
                        throw fault(3);
                    }
                    word("does");
                    on.put(d, known());
                }
                out.personNames.add(name);
                out.persons.add(new int[] {town, first});
                out.on.add(on);
            } else if (t.is("group") && out.groups.size() < 6) {
                at++;
                String name = fresh(out.groupNames);
                word("of");
                int town = number(0, 1);
                word("many");
                int many = number(1, 99);
                int pity = 0;
                if (look().is("pity")) {
                    at++;
                    pity = number(0, 9);
                }
                out.groupNames.add(name);
                out.groups.add(new int[] {town, many, pity});
            } else if (t.is("vote") && out.vote == null) {
                at++;
                out.vote = either(0);
            } else if (t.is("winter") && !out.winterTold) {
                at++;
                out.winterTold = true;
                out.rate = number(0, 100);
                word("of");
                out.cost = number(1, 50);
            } else if (t.is("draw") && !out.drawTold) {
                at++;
                out.drawTold = true;
                out.draw = number(0, 999);
            } else {
                throw fault(2);
            }
        }

        Node either(int within) {
            Node a = both(within);
            while (look().is("or")) {
                at++;
                Node x = a;
                Node y = both(within);
                a = by -> (x.value(by) != 0 | y.value(by) != 0) ? 1 : 0;
            }
            return a;
        }

        Node both(int within) {
            Node a = single(within);
            while (look().is("and")) {
                at++;
                Node x = a;
                Node y = single(within);
                a = by -> (x.value(by) != 0 & y.value(by) != 0) ? 1 : 0;
            }
            return a;
        }

        Node single(int within) {
            if (look().is("not")) {
                if (within == 7) {
                    throw fault(2);
                }
                at++;
                Node x = single(within + 1);
                return by -> x.value(by) == 0 ? 1 : 0;
            }
            Node x = sum(within);
            String s = look().text;
            if (look().is("<") || look().is(">") || look().is("=")) {
                at++;
                Node y = sum(within);
                return by -> {
                    int c = Integer.compare(x.value(by), y.value(by));
                    return (s.equals("<") ? c < 0 : s.equals(">") ? c > 0 : c == 0) ? 1 : 0;
                };
            }
            return x;
        }

        Node sum(int within) {
            Node a = term(within);
            while (look().is("+") || look().is("-")) {
                boolean plus = look().is("+");
                at++;
                Node x = a;
                Node y = term(within);
                a = by -> plus ? x.value(by) + y.value(by) : x.value(by) - y.value(by);
            }
            return a;
        }

        Node term(int within) {
            Node a = unit(within);
            while (look().is("*") || look().is("/") || look().is("%")) {
                String s = look().text;
                at++;
                Node x = a;
                Node y = unit(within);
                a = by -> {
                    BigInteger p = BigInteger.valueOf(x.value(by));
                    BigInteger q = BigInteger.valueOf(y.value(by));
                    if (s.equals("*")) {
                        return p.multiply(q).intValue();
                    }
                    if (q.signum() == 0) {
                        return 0;
                    }
                    return s.equals("/") ? p.divide(q).intValue() : p.remainder(q).intValue();
                };
            }
            return a;
        }

        Node unit(int within) {
            Token t = look();
            boolean named = Arrays.asList("here", "there", "pity", "terms", "season").contains(t.text) && !t.broken;
            if (!named && !t.isNumber() && !t.is("(") || out.units == 30 || t.is("(") && within == 7) {
                throw fault(2);
            }
            out.units++;
            at++;
            if (t.is("(")) {
                Node x = either(within + 1);
                word(")");
                return x;
            }
            if (named) {
                return by -> by.get(t.text);
            }
            int v = Integer.parseInt(t.text);
            return by -> v;
        }
    }

    static final class Now {
        int[] speaker = {NONE, NONE};
        int[] weal = {0, 0};
        int[] done = {NONE, NONE};
        int[] asked = {NONE, NONE};
        int[] terms = new int[8];
        int season;
        int seed;

        Now copy() {
            Now n = new Now();
            n.speaker = speaker.clone();
            n.weal = weal.clone();
            n.done = done.clone();
            n.asked = asked.clone();
            n.terms = terms.clone();
            n.season = season;
            n.seed = seed;
            return n;
        }
    }

    record Seen(int on, int what, boolean is, int told, int[] untold) {
    }

    private String tape = "";
    private int code = 0;
    private int place = NONE;
    private Told r = new Told();
    private Now now = new Now();
    private final List<Now> behind = new ArrayList<>();
    private final List<Now> ahead = new ArrayList<>();
    private List<Integer> lying = new ArrayList<>();
    private final List<Seen> seen = new ArrayList<>();
    private int time = 0;
    private Now[] boxes = new Now[3];

    public int feed(int a, int b, int c, int d, int e) {
        if (tape.length() + 20 > 1600) {
            return NONE;
        }
        StringBuilder s = new StringBuilder(tape);
        for (int x : new int[] {a, b, c, d, e}) {
            s.append((char) (x >> 24 & 255)).append((char) (x >> 16 & 255)).append((char) (x >> 8 & 255)).append((char) (x & 255));
        }
        tape = s.toString();
        return tape.length();
    }

    public int end(int n) {
        if (n < 0 || n > tape.length()) {
            return NONE;
        }
        tape = tape.substring(0, n);
        return n;
    }

    public int river() {
        try {
            r = new Parser(tape).parse();
        } catch (Fault f) {
            code = f.code;
            place = f.place;
            return NONE;
        }
        code = 0;
        place = NONE;
        tape = "";
        now = new Now();
        now.seed = r.draw;
        behind.clear();
        ahead.clear();
        lying = new ArrayList<>();
        seen.clear();
        boxes = new Now[3];
        return r.persons.size();
    }

    public int fault(int what) {
        return what == 0 ? code : what == 1 ? place : NONE;
    }

    private boolean isDeed(int d) {
        return d >= 0 && d < r.deedNames.size();
    }

    private boolean isPerson(int p) {
        return p >= 0 && p < r.persons.size();
    }

    private static boolean isTown(int t) {
        return t == 0 || t == 1;
    }

    public int deed(int deed, int what) {
        return !isDeed(deed) ? GAP : what == 0 ? r.here(deed) : what == 1 ? r.there(deed) : GAP;
    }

    public int person(int p, int what) {
        if (!isPerson(p)) {
            return NONE;
        }
        int[] all = {r.persons.get(p)[0], r.persons.get(p)[1], now.terms[p], now.speaker[r.persons.get(p)[0]] == p ? 1 : 0};
        return what >= 0 && what < 4 ? all[what] : NONE;
    }

    public int does(int p, int d) {
        if (!isPerson(p) || d != NONE && !isDeed(d)) {
            return NONE;
        }
        return r.react(p, d);
    }

    private int voteOf(int g) {
        int[] group = r.groups.get(g);
        int best = NONE;
        int most = 0;
        for (int p : r.of(group[0])) {
            int first = r.persons.get(p)[1];
            Map<String, Integer> by = Map.of("here", r.here(first), "there", r.there(first), "pity", group[2],
                    "terms", now.terms[p], "season", now.season);
            int v = r.vote == null ? r.here(first) - r.there(first) : r.vote.value(by);
            if (best == NONE || v > most) {
                best = p;
                most = v;
            }
        }
        return best;
    }

    public int group(int g, int what) {
        if (g < 0 || g >= r.groups.size() || what < 0 || what > 3) {
            return NONE;
        }
        return what == 3 ? voteOf(g) : r.groups.get(g)[what];
    }

    private int deedBy(Now n, int t) {
        if (n.speaker[t] == NONE) {
            return NONE;
        }
        return n.asked[t] != NONE ? n.asked[t] : r.react(n.speaker[t], n.done[t]);
    }

    public int town(int t, int what) {
        if (!isTown(t) || what < 0 || what > 4) {
            return GAP;
        }
        return new int[] {now.weal[t], now.speaker[t], now.done[t], deedBy(now, t), now.asked[t]}[what];
    }

    private int[] choices() {
        int[] c = new int[r.groups.size()];
        for (int g = 0; g < c.length; g++) {
            c[g] = voteOf(g);
        }
        return c;
    }

    private int tally(int[] choice, int p) {
        int n = 0;
        for (int g = 0; g < choice.length; g++) {
            n += choice[g] == p ? r.groups.get(g)[1] : 0;
        }
        return n;
    }

    private int winner(int[] choice, List<Integer> of) {
        int best = NONE;
        for (int p : of) {
            if (best == NONE || tally(choice, p) > tally(choice, best)) {
                best = p;
            }
        }
        return best;
    }

    public int votes(int p) {
        return isPerson(p) ? tally(choices(), p) : NONE;
    }

    public int elected(int t) {
        return isTown(t) ? winner(choices(), r.of(t)) : NONE;
    }

    private void act() {
        behind.add(now.copy());
        if (behind.size() > 40) {
            behind.remove(0);
        }
        ahead.clear();
    }

    public int elect() {
        int[] next = {elected(0), elected(1)};
        act();
        int n = 0;
        for (int t = 0; t < 2; t++) {
            if (now.speaker[t] != next[t]) {
                n++;
                now.speaker[t] = next[t];
                now.asked[t] = NONE;
            }
        }
        return n;
    }

    public int force(int p) {
        if (!isPerson(p) || now.speaker[r.persons.get(p)[0]] == p) {
            return NONE;
        }
        act();
        int t = r.persons.get(p)[0];
        int before = now.speaker[t];
        now.speaker[t] = p;
        now.asked[t] = NONE;
        return before == NONE ? -2 : before;
    }

    public int drum(int t, int d) {
        if (!isTown(t) || !isDeed(d) || now.speaker[1 - t] == NONE || now.asked[1 - t] == d) {
            return NONE;
        }
        int before = deedBy(now, 1 - t);
        act();
        now.asked[1 - t] = d;
        return before;
    }

    private boolean pass(Now n, boolean each) {
        int[] d = {deedBy(n, 0), deedBy(n, 1)};
        for (int t = 0; t < 2; t++) {
            n.weal[t] += r.here(d[t]) + r.there(d[1 - t]);
            n.done[t] = d[1 - t];
            n.asked[t] = NONE;
            if (n.speaker[t] != NONE) {
                n.terms[n.speaker[t]]++;
            }
        }
        n.seed = (137 * n.seed + 71) % 1000;
        n.season++;
        boolean winter = each || n.seed % 100 < r.rate;
        for (int t = 0; t < 2; t++) {
            n.weal[t] -= winter ? r.cost : 0;
        }
        return winter;
    }

    public int season() {
        if (now.season >= 999) {
            return NONE;
        }
        act();
        return pass(now, false) ? 1 : 0;
    }

    public boolean undo() {
        if (behind.isEmpty()) {
            return false;
        }
        ahead.add(now);
        now = behind.remove(behind.size() - 1);
        return true;
    }

    public boolean redo() {
        if (ahead.isEmpty()) {
            return false;
        }
        behind.add(now);
        now = ahead.remove(ahead.size() - 1);
        return true;
    }

    private int[] weals(int t, int n, boolean each) {
        Now x = now.copy();
        int[] w = new int[n + 1];
        for (int i = 0; i <= n; i++) {
            w[i] = x.weal[t];
            pass(x, each);
        }
        return w;
    }

    public int will(int t, int n) {
        return isTown(t) && n >= 0 && n <= 60 ? weals(t, n, false)[n] : GAP;
    }

    public int margin(int t, int what) {
        if (!isTown(t) || what < 0 || what > 1 || r.of(t).size() < 2) {
            return NONE;
        }
        int[] c = choices();
        int best = winner(c, r.of(t));
        List<Integer> rest = r.of(t);
        rest.remove((Integer) best);
        int second = winner(c, rest);
        return what == 1 ? second : tally(c, best) - tally(c, second);
    }

    public int ruin(int t) {
        if (isTown(t)) {
            int[] w = weals(t, 60, false);
            for (int i = 0; i <= 60; i++) {
                if (w[i] < 0) {
                    return i;
                }
            }
        }
        return NONE;
    }

    /** All that can follow, with the asking of the first season outermost. */
    private void plead(Now from, int t, int n, List<Integer> sofar, List<int[]> results, List<List<Integer>> ways) {
        if (sofar.size() == n) {
            int asked = 0;
            for (int d : sofar) {
                asked += d == NONE ? 0 : 1;
            }
            results.add(new int[] {from.weal[t], asked});
            ways.add(new ArrayList<>(sofar));
            return;
        }
        for (int d = NONE; d < r.deedNames.size(); d++) {
            Now x = from.copy();
            if (d != NONE) {
                x.asked[1 - t] = d;
            }
            pass(x, false);
            sofar.add(d);
            plead(x, t, n, sofar, results, ways);
            sofar.remove(sofar.size() - 1);
        }
    }

    public int petition(int t, int n) {
        lying = new ArrayList<>();
        if (!isTown(t) || n < 1 || n > 3 || now.speaker[1 - t] == NONE) {
            return GAP;
        }
        List<int[]> results = new ArrayList<>();
        List<List<Integer>> ways = new ArrayList<>();
        plead(now.copy(), t, n, new ArrayList<>(), results, ways);
        int best = 0;
        for (int i = 1; i < results.size(); i++) {
            int[] x = results.get(i);
            int[] y = results.get(best);
            if (x[0] > y[0] || x[0] == y[0] && x[1] < y[1]) {
                best = i;
            }
        }
        lying = ways.get(best);
        return results.get(best)[0];
    }

    public int sway(int p, int what) {
        if (!isPerson(p) || what < 0 || what > 1) {
            return NONE;
        }
        int t = r.persons.get(p)[0];
        int[] c = choices();
        for (int size = 0; size <= c.length; size++) {
            for (int set = 0; set < 1 << c.length; set++) {
                int[] x = c.clone();
                boolean can = Integer.bitCount(set) == size;
                for (int g = 0; g < c.length; g++) {
                    if ((set >> g & 1) == 1) {
                        can &= r.groups.get(g)[0] == t && c[g] != p;
                        x[g] = p;
                    }
                }
                if (can && winner(x, r.of(t)) == p) {
                    return what == 0 ? size : set;
                }
            }
        }
        return NONE;
    }

    private int[][] play(int p, int q, int n) {
        int[][] deeds = new int[n][];
        for (int i = 0; i < n; i++) {
            deeds[i] = new int[] {r.react(p, i == 0 ? NONE : deeds[i - 1][1]), r.react(q, i == 0 ? NONE : deeds[i - 1][0])};
        }
        return deeds;
    }

    private int payOf(int p, int q, int n) {
        int sum = 0;
        for (int[] d : play(p, q, n)) {
            sum += r.here(d[0]) + r.there(d[1]);
        }
        return sum;
    }

    private boolean foes(int p, int q) {
        return isPerson(p) && isPerson(q) && r.persons.get(p)[0] != r.persons.get(q)[0];
    }

    public int pay(int p, int q, int n, int what) {
        if (!foes(p, q) || n < 0 || n > 60 || what < 0 || what > 1) {
            return GAP;
        }
        return what == 0 ? payOf(p, q, n) : payOf(q, p, n);
    }

    private static boolean span(int n) {
        return n >= 1 && n <= 60;
    }

    private List<Integer> foesOf(int p) {
        return r.of(1 - r.persons.get(p)[0]);
    }

    public int best(int p, int n) {
        if (!isPerson(p) || !span(n)) {
            return NONE;
        }
        int best = NONE;
        for (int q : foesOf(p)) {
            if (best == NONE || payOf(q, p, n) > payOf(best, p, n)) {
                best = q;
            }
        }
        return best;
    }

    public int total(int p, int n) {
        if (!isPerson(p) || !span(n)) {
            return GAP;
        }
        int sum = 0;
        for (int q : foesOf(p)) {
            sum += payOf(p, q, n);
        }
        return sum;
    }

    public int champion(int t, int n) {
        int best = NONE;
        if (isTown(t) && span(n)) {
            for (int p : r.of(t)) {
                if (best == NONE || total(p, n) > total(best, n)) {
                    best = p;
                }
            }
        }
        return best;
    }

    public int twins(int p) {
        if (!isPerson(p)) {
            return NONE;
        }
        int set = 0;
        for (int q = 0; q < r.persons.size(); q++) {
            boolean same = true;
            for (int d = NONE; d < r.deedNames.size(); d++) {
                same &= r.react(p, d) == r.react(q, d);
            }
            set += same ? 1 << q : 0;
        }
        return set;
    }

    public int rests(int n) {
        lying = new ArrayList<>();
        if (!span(n)) {
            return NONE;
        }
        int count = 0;
        for (int p : r.of(0)) {
            for (int q : r.of(1)) {
                boolean rest = true;
                for (int x : r.of(0)) {
                    rest &= payOf(x, q, n) <= payOf(p, q, n);
                }
                for (int x : r.of(1)) {
                    rest &= payOf(x, p, n) <= payOf(q, p, n);
                }
                if (rest && count++ == 0) {
                    lying = List.of(p, q);
                }
            }
        }
        return count;
    }

    public int concord(int n) {
        lying = new ArrayList<>();
        int most = GAP;
        if (span(n)) {
            for (int p : r.of(0)) {
                for (int q : r.of(1)) {
                    if (payOf(p, q, n) + payOf(q, p, n) > most) {
                        most = payOf(p, q, n) + payOf(q, p, n);
                        lying = List.of(p, q);
                    }
                }
            }
        }
        return most;
    }

    /** By the words alone: the first season from which on all that follows is as it is so many seasons later. */
    private int[] roundOf(int p, int q) {
        int[][] d = play(p, q, 120);
        for (int from = 0; from < 40; from++) {
            for (int length = 1; length < 40; length++) {
                boolean again = true;
                for (int i = from; i + length < 120; i++) {
                    again &= d[i][0] == d[i + length][0] && d[i][1] == d[i + length][1];
                }
                if (again) {
                    int sum = 0;
                    for (int i = from; i < from + length; i++) {
                        sum += r.here(d[i][0]) + r.there(d[i][1]);
                    }
                    return new int[] {from, length, sum};
                }
            }
        }
        throw new IllegalStateException();
    }

    public int round(int p, int q, int what) {
        return foes(p, q) && what >= 0 && what <= 1 ? roundOf(p, q)[what] : NONE;
    }

    private static int lowest(long upper, long lower, int part) {
        BigInteger g = BigInteger.valueOf(upper).gcd(BigInteger.valueOf(lower));
        return BigInteger.valueOf(part == 0 ? upper : lower).divide(g).intValueExact();
    }

    public int mean(int p, int q, int part) {
        if (!foes(p, q) || part < 0 || part > 1) {
            return GAP;
        }
        int[] x = roundOf(p, q);
        return lowest(x[2], x[1], part);
    }

    public int fair(int what) {
        int[] best = null;
        for (int d = 0; d < r.deedNames.size(); d++) {
            for (int e = 0; e < r.deedNames.size(); e++) {
                int a = r.here(d) + r.there(e);
                int b = r.here(e) + r.there(d);
                int[] x = {d, e, Math.min(a, b), a + b};
                if (best == null || x[2] > best[2] || x[2] == best[2] && x[3] > best[3]) {
                    best = x;
                }
            }
        }
        return best == null || what < 0 || what > 2 ? GAP : best[what];
    }

    private boolean stays(int own, int done, int n) {
        int best = Integer.MIN_VALUE;
        int worst = Integer.MAX_VALUE;
        for (int d = 0; d < r.deedNames.size(); d++) {
            best = Math.max(best, r.here(d));
            worst = Math.min(worst, r.there(d));
        }
        boolean stays = true;
        for (int d = 0; d < r.deedNames.size(); d++) {
            int leave = r.here(d) + r.there(done);
            int keep = r.here(own) + r.there(done);
            for (int i = 0; i < n; i++) {
                leave += best + worst;
                keep += r.here(own) + r.there(done);
            }
            stays &= d == own || leave <= keep;
        }
        return stays;
    }

    public int holds(int d, int e, int n) {
        if (!isDeed(d) || !isDeed(e) || n < 0 || n > 60) {
            return NONE;
        }
        return stays(d, e, n) && stays(e, d, n) ? 1 : 0;
    }

    public int treaties(int n) {
        if (n < 0 || n > 60) {
            return NONE;
        }
        int count = 0;
        for (int d = 0; d < r.deedNames.size(); d++) {
            for (int e = 0; e < r.deedNames.size(); e++) {
                count += holds(d, e, n);
            }
        }
        return count;
    }

    public int hold(int t, int n) {
        if (!isTown(t) || n < 0 || n > 60) {
            return NONE;
        }
        int[] w = weals(t, n, true);
        int need = 0;
        for (int i = 1; i <= n; i++) {
            need = Math.max(need, w[0] - w[i]);
        }
        return need;
    }

    public int odds(int n, int part) {
        if (n < 0 || n > 4 || part < 0 || part > 1) {
            return NONE;
        }
        return lowest((long) Math.pow(100 - r.rate, n), (long) Math.pow(100, n), part);
    }

    public int feared(int p, int n) {
        if (!isPerson(p) || !span(n)) {
            return NONE;
        }
        int set = 0;
        for (int q : foesOf(p)) {
            set += payOf(p, q, n) < 0 ? 1 << q : 0;
        }
        return set;
    }

    public int lies(int i) {
        return i >= 0 && i < lying.size() ? lying.get(i) : -2;
    }

    public int seen(int on, int d, boolean is) {
        if (on != NONE && !isDeed(on) || !isDeed(d) || seen.size() == 30) {
            return NONE;
        }
        seen.add(new Seen(on, d, is, time, new int[] {NONE}));
        return seen.size() - 1;
    }

    public int from(int t, boolean is) {
        if (!isTown(t) || seen.size() == 30) {
            return NONE;
        }
        seen.add(new Seen(-2, t, is, time, new int[] {NONE}));
        return seen.size() - 1;
    }

    public boolean untell(int i) {
        if (i < 0 || i >= seen.size() || seen.get(i).untold[0] != NONE) {
            return false;
        }
        seen.get(i).untold[0] = time;
        return true;
    }

    public int later(int by) {
        if (by < 0 || by > 1000 || time + by > 100000) {
            return NONE;
        }
        time += by;
        return time;
    }

    public int fits(int k) {
        int set = 0;
        for (int p = 0; p < r.persons.size(); p++) {
            boolean fits = true;
            for (Seen s : seen) {
                if (s.told <= k && !(s.untold[0] != NONE && s.untold[0] <= k)) {
                    int x = s.on == -2 ? r.persons.get(p)[0] : r.react(p, s.on);
                    fits &= s.is == (x == s.what);
                }
            }
            set += fits ? 1 << p : 0;
        }
        return set;
    }

    public int ask(int what, int k) {
        int set = fits(k);
        if (set == 0 || what < 0 || what > 1) {
            return -2;
        }
        int best = -5;
        int left = 99;
        for (int d = NONE; d < r.deedNames.size(); d++) {
            int most = 0;
            for (int e = 0; e < r.deedNames.size(); e++) {
                int n = 0;
                for (int p = 0; p < r.persons.size(); p++) {
                    n += (set >> p & 1) == 1 && r.react(p, d) == e ? 1 : 0;
                }
                most = Math.max(most, n);
            }
            if (most < left) {
                left = most;
                best = d;
            }
        }
        return what == 0 ? best : left;
    }

    public int image(int box) {
        if (box < 0 || box > 2) {
            return NONE;
        }
        boxes[box] = now.copy();
        return now.season;
    }

    public int back(int box) {
        if (box < 0 || box > 2 || boxes[box] == null) {
            return NONE;
        }
        now = boxes[box].copy();
        behind.clear();
        ahead.clear();
        return now.season;
    }

    public int about(int what) {
        int[] all = {r.persons.size(), r.deedNames.size(), r.groups.size(), now.season, now.seed, behind.size(), ahead.size(),
            seen.size(), time, tape.length(), r.units, lying.size()};
        return what >= 0 && what < all.length ? all[what] : NONE;
    }
}
