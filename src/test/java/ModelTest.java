import java.lang.reflect.Method;
import java.util.ArrayDeque;
import java.util.ArrayList;
import java.util.Arrays;
import java.util.Collections;
import java.util.List;
import java.util.Random;
import java.util.TreeSet;

/**
 * Long runs of drawn calls (of a fixed seed), each asked of the class and of a second program that follows the
 * document in another manner: lists that are copied whole for every DEED, where the class does DEEDS over again.
 */
public final class ModelTest {
    private static final Random DRAW = new Random(20261117L);
    private static final int MOST_CALLS = 512, LOOK = 5, LOOK_AT_ALL = 33;
    private static int wrong = 0;

    public static void main(String[] args) throws Exception {
        for (int run = 0; run < 1600 && wrong < 20; run++) oneRun(run, run % 2 == 1);
        faults();
        if (wrong != 0) System.exit(1);
        System.out.println("the model agrees");
    }

    /**
     * Some runs are of DEEDS for the most part, for rows and texts take up many calls. An object is asked 512 times at
     * most: some runs look at what is told behind every call, so they are shorter, others now and then.
     */
    private static void oneRun(int run, boolean deedful) throws Exception {
        SubgroupWriter x = new SubgroupWriter();
        Model m = new Model();
        StringBuilder trace = new StringBuilder();
        List<Object[]> plan = new ArrayList<>();
        int asked = 0;
        for (int n = 0; asked < MOST_CALLS - LOOK - LOOK_AT_ALL && wrong < 20; n++) {
            if (plan.isEmpty()) plan.addAll(drawCalls(m, n, deedful));
            if (plan.isEmpty()) continue;
            Object[] call = plan.remove(0);
            String name = (String) call[0];
            Class<?>[] types = new Class<?>[call.length - 1];
            Arrays.fill(types, int.class);
            Object[] values = Arrays.copyOfRange(call, 1, call.length);
            long got = ask(SubgroupWriter.class.getMethod(name, types), x, values);
            long due = ask(Model.class.getMethod(name, types), m, values);
            asked++;
            trace.append(name).append(Arrays.toString(values)).append(' ');
            boolean looks = run % 4 < 2 ? !name.equals("put") : n % 20 == 19;
            if (looks) asked += LOOK;
            boolean last = asked >= MOST_CALLS - LOOK - LOOK_AT_ALL;
            if (got != due || looks && !sameTold(x, m) || last && !sameState(x, m)) {
                wrong++;
                System.out.println("run " + run + ": " + name + Arrays.toString(values) + " answered " + got + ", due is "
                        + due + "; told " + x.asked() + "/" + m.asked() + " behind " + tail(trace));
                return;
            }
        }
    }

    private static String tail(StringBuilder trace) {
        return trace.length() > 1500 ? ".." + trace.substring(trace.length() - 1500) : trace.toString();
    }

    private static long ask(Method method, Object of, Object[] values) throws Exception {
        return ((Number) method.invoke(of, values)).longValue();
    }

    /** LOOK calls. */
    private static boolean sameTold(SubgroupWriter x, Model m) {
        return x.asked() == m.asked() && x.upper() == m.upper() && x.lower() == m.lower()
                && x.finding() == m.finding() && x.digest() == m.digest();
    }

    /** LOOK_AT_ALL calls. */
    private static boolean sameState(SubgroupWriter x, Model m) {
        boolean same = sameTold(x, m);
        for (int f = -1; f < 8; f++) same &= x.findings(f) == m.findings(f);
        for (int w = -2; w < 17; w++) same &= x.count(w) == m.count(w);
        return same;
    }

    private static int below(int n) {
        return DRAW.nextInt(n);
    }

    /** Mostly a number from low to high, now and then one beside them or far off. */
    private static int about(int low, int high) {
        int kind = below(40);
        if (kind == 0) return low - 1;
        if (kind == 1) return high + 1;
        if (kind == 2) return below(2) == 0 ? Integer.MIN_VALUE : Integer.MAX_VALUE;
        if (kind == 3) return DRAW.nextInt();
        return high < low ? low : low + below(high - low + 1);
    }

    private static Object[] call(String name, int... values) {
        Object[] all = new Object[values.length + 1];
        all[0] = name;
        for (int k = 0; k < values.length; k++) all[k + 1] = values[k];
        return all;
    }

    private static List<Object[]> typed(int t, String text) {
        List<Object[]> calls = new ArrayList<>();
        calls.add(call("text", t, text.length()));
        for (int k = 0; k < text.length(); k++) calls.add(call("put", t, k, text.charAt(k)));
        return calls;
    }

    private static List<Object[]> drawCalls(Model m, int n, boolean deedful) {
        List<Object[]> calls = new ArrayList<>();
        if (n > 5 && below(120) == 0 || n == 5 || n > 5 && m.points() == 0 && below(4) == 0) {
            int t = below(4);
            calls.addAll(typed(t, below(8) == 0 ? spoilt(drawGroup(false)) : drawGroup(deedful)));
            calls.add(call("fault", t));
            calls.add(call("group", t));
            return calls;
        }
        int p = Math.max(0, m.points() - 1);
        int rules = m.count(6);
        int signs = m.count(4);
        int deeds = m.count(8);
        switch (deedful ? 20 + below(21) : below(44)) {
            case 0: calls.add(call("row", about(0, 5), about(0, 40))); break;
            case 1: calls.add(call("lay", about(0, 5), about(0, 9), DRAW.nextInt())); break;
            case 2: calls.add(call("at", about(0, 5), about(0, 9))); break;
            case 3: if (below(3) == 0) calls.add(call("tear", about(0, 5))); break;
            case 4: calls.add(call("copy", about(0, 5), about(0, 5), about(0, 5), about(0, 5), about(0, 5))); break;
            case 5: calls.add(call("mean", about(0, 5))); break;
            case 6: calls.add(call("text", about(0, 3), about(0, 60))); break;
            case 7: calls.add(call("put", about(0, 3), about(0, 20), DRAW.nextInt())); break;
            case 8: calls.add(call("fault", about(0, 3))); break;
            case 9: if (below(10) == 0) calls.add(call("group", about(0, 3))); break;
            case 10: calls.add(call("goes", about(0, p), about(-3, 3))); break;
            case 11: calls.add(call("reached", about(0, p), about(0, 3))); break;
            case 12: calls.add(call("way", about(0, p), about(0, 5))); break;
            case 13: calls.add(call("edge", about(0, m.edges() - 1), about(0, 4))); break;
            case 14: case 15: calls.add(call("mark", about(0, m.edges() - 1), about(1, 4))); break;
            case 16: case 17: calls.addAll(drawWord("written", m.count(1), below(20) == 0)); break;
            case 18: case 19: calls.addAll(drawWord("spelt", signs, below(20) == 0)); break;
            case 20: calls.add(call("rule", about(0, rules - 1), about(0, 5))); break;
            case 21: calls.add(call("often", about(0, rules - 1), about(1, signs))); break;
            case 22: calls.add(call("alike", about(0, rules - 1), about(0, rules - 1))); break;
            case 23: calls.add(call("order", about(0, 2))); break;
            case 24: case 25: calls.add(call("turn", about(0, rules - 1))); break;
            case 26: case 27: calls.add(call("over", about(0, rules - 1))); break;
            case 28: case 29: calls.add(call("join", about(0, rules - 1), about(0, rules - 1))); break;
            case 30: case 31: calls.add(call("cut", about(0, rules - 1))); break;
            case 32: case 33: calls.add(call("solve", about(0, rules - 1), about(1, signs))); break;
            case 34: if (below(3) == 0) calls.add(call("shorten")); break;
            case 35: if (deeds > 12 || below(4) == 0) calls.add(call("undo", about(0, deeds))); break;
            case 36: calls.add(call("keep", about(0, 2))); break;
            case 37: calls.add(call("on", about(0, 2))); break;
            case 38: calls.add(call("lots", about(1, 10), below(9) == 0 ? about(1, 5) : 1 + below(2147483646))); break;
            case 39: calls.add(call("rank", below(4) == 0 ? about(0, 11) : new int[] {2, 3, 5, 7}[below(4)])); break;
            case 40: calls.add(call("ways", below(4) == 0 ? about(0, 11) : new int[] {2, 3, 5, 7}[below(4)])); break;
            case 41: calls.add(call("odds", about(0, p), about(0, p), about(0, 8))); break;
            case 42: if (below(3) == 0) calls.add(call("mid", about(0, p), about(0, 4))); break;
            default: calls.add(call("digest")); break;
        }
        if (calls.isEmpty()) calls.add(call("asked"));
        return calls;
    }

    /** A ROW of numbers for written, spelt, one of them wrong if told so. */
    private static List<Object[]> drawWord(String name, int most, boolean spoilt) {
        List<Object[]> calls = new ArrayList<>();
        int r = below(6);
        int n = below(3) == 0 ? below(41) : below(8);
        calls.add(call("row", r, n));
        for (int k = 0; k < n; k++) {
            int v = most == 0 ? 1 : 1 + below(most);
            calls.add(call("lay", r, k, below(2) == 0 ? v : -v));
        }
        if (spoilt && n > 0) calls.add(call("lay", r, below(n), new int[] {0, most + 1, -most - 1, Integer.MIN_VALUE}[below(4)]));
        if (name.equals("written")) {
            calls.add(call(name, about(0, 2), below(20) == 0 ? about(0, 5) : r, about(0, 5)));
        } else {
            calls.add(call(name, below(20) == 0 ? about(0, 5) : r, about(0, 5)));
        }
        return calls;
    }

    /** A GROUP whose RELATORS leave all POINTS where they are; not always one that comes to all. */
    private static String drawGroup(boolean full) {
        int points = 2 + below(4);
        int generators = full ? 2 + below(2) : 1 + below(3);
        int[][] to = new int[generators][points];
        StringBuilder out = new StringBuilder(blanks());
        for (int g = 0; g < generators; g++) {
            List<Integer> images = new ArrayList<>();
            for (int k = 0; k < points; k++) images.add(k);
            Collections.shuffle(images, DRAW);
            out.append((char) ('a' + g));
            for (int k = 0; k < points; k++) {
                to[g][k] = images.get(k);
                out.append(images.get(k));
            }
            out.append(blanks());
        }
        int relators = full ? 3 : below(4);
        for (int r = 0; r < relators; r++) {
            for (int attempt = 0; attempt < 300; attempt++) {
                String word = drawRelator(generators, full);
                if (out.length() + word.length() + 4 <= 60 && leavesAll(to, word)) {
                    out.append('=').append(word).append(blanks());
                    break;
                }
            }
        }
        return out.toString();
    }

    private static String blanks() {
        return "   ".substring(0, below(5) == 0 ? below(3) : below(2));
    }

    private static String drawRelator(int generators, boolean full) {
        StringBuilder word = new StringBuilder();
        int n = full && below(3) > 0 ? 6 + below(3) : 1 + below(8);
        for (int k = 0; k < n; k++) word.append((char) ((below(3) == 0 ? 'A' : 'a') + below(generators)));
        return word.toString();
    }

    private static boolean leavesAll(int[][] to, String word) {
        for (int p = 0; p < to[0].length; p++) {
            int here = p;
            for (char c : word.toCharArray()) {
                if (c >= 'a') {
                    here = to[c - 'a'][here];
                } else {
                    int back = 0;
                    while (to[c - 'A'][back] != here) back++;
                    here = back;
                }
            }
            if (here != p) return false;
        }
        return true;
    }

    private static String spoilt(String text) {
        StringBuilder out = new StringBuilder(text);
        int changes = 1 + below(2);
        String signs = "abcdABCD0123456789== \t" + (char) 200;
        for (int k = 0; k < changes && out.length() > 0; k++) {
            int at = below(out.length());
            char sign = signs.charAt(below(signs.length()));
            switch (below(4)) {
                case 0: out.deleteCharAt(at); break;
                case 1: if (out.length() < 60) out.insert(at, sign); break;
                case 2: out.setLength(at); break;
                default: out.setCharAt(at, sign); break;
            }
        }
        return out.toString();
    }

    /** Many spoilt TEXTS, for a FAULT has many kinds. */
    private static void faults() {
        for (int round = 0; round < 40000 && wrong < 20; round++) {
            String text = spoilt(drawGroup(false));
            SubgroupWriter x = new SubgroupWriter();
            x.text(0, text.length());
            byte[] bytes = new byte[text.length()];
            for (int k = 0; k < text.length(); k++) {
                x.put(0, k, text.charAt(k));
                bytes[k] = (byte) text.charAt(k);
            }
            int due = Model.faultOf(bytes);
            if (x.fault(0) != due) {
                wrong++;
                System.out.println("fault of '" + text + "' answered " + x.fault(0) + ", due is " + due);
            }
        }
    }

    /** The document once more. */
    public static final class Model {
        private final Integer[][] rows = new Integer[6][];
        private final Byte[][] texts = new Byte[4][];
        private final int[] found = new int[6];
        private final List<List<State>> kept = new ArrayList<>(Arrays.asList(null, null, null));
        /** One state ahead of each DEED, and that of now at the end; empty without a GROUP. */
        private List<State> states = new ArrayList<>();
        private int[][] to = new int[0][0];
        private List<int[]> relators = new ArrayList<>();
        private int asked = 0;
        private int finding = 0;
        private long upper = 0;
        private long lower = 1;

        /** All that a DEED changes. */
        private static final class State {
            int order;
            int[] from;
            int[] by;
            List<Integer> reached = new ArrayList<>();
            int[] signOf;
            int signs;
            TreeSet<Integer> left = new TreeSet<>();
            List<List<Integer>> rules = new ArrayList<>();

            State twin() {
                State s = new State();
                s.order = order;
                s.from = from;
                s.by = by;
                s.reached = reached;
                s.signOf = signOf;
                s.signs = signs;
                s.left = new TreeSet<>(left);
                for (List<Integer> rule : rules) s.rules.add(new ArrayList<>(rule));
                return s;
            }
        }

        private State now() {
            return states.isEmpty() ? new State() : states.get(states.size() - 1);
        }

        private int deeds() {
            return Math.max(0, states.size() - 1);
        }

        private int points() {
            return to.length == 0 ? 0 : to[0].length;
        }

        private int edges() {
            return points() * to.length;
        }

        private int find(int f) {
            finding = f;
            found[f]++;
            return -3;
        }

        private int tell(int v) {
            asked = v;
            return 1;
        }

        public int row(int r, int n) {
            if (r < 0 || r > 5 || n > 40) return -1;
            if (n < 0) return find(5);
            rows[r] = new Integer[n];
            Arrays.fill(rows[r], 0);
            return n;
        }

        public int lay(int r, int i, int v) {
            int answer = at(r, i);
            if (answer == 1) rows[r][i] = v;
            return answer;
        }

        public int at(int r, int i) {
            if (r < 0 || r > 5) return -1;
            if (rows[r] == null) return find(1);
            if (i < 0 || i >= rows[r].length) return find(2);
            return tell(rows[r][i]);
        }

        public int tear(int r) {
            if (r < 0 || r > 5) return -1;
            if (rows[r] == null) return find(1);
            rows[r] = null;
            return 1;
        }

        public int copy(int r, int i, int t, int j, int n) {
            if (r < 0 || r > 5 || t < 0 || t > 5) return -1;
            if (n < 0) return find(5);
            if (rows[r] == null || rows[t] == null) return find(1);
            if (i < 0 || j < 0 || (long) i + n > rows[r].length || (long) j + n > rows[t].length) return find(2);
            List<Integer> taken = new ArrayList<>(Arrays.asList(rows[r]).subList(i, i + n));
            for (int k = 0; k < n; k++) rows[t][j + k] = taken.get(k);
            return 1;
        }

        public int mean(int r) {
            if (r < 0 || r > 5) return -1;
            if (rows[r] == null) return find(1);
            if (rows[r].length == 0) return find(4);
            long sum = 0;
            for (int v : rows[r]) sum += v;
            return tell((int) (sum / rows[r].length));
        }

        public int text(int t, int n) {
            if (t < 0 || t > 3 || n > 60) return -1;
            if (n < 0) return find(5);
            texts[t] = new Byte[n];
            Arrays.fill(texts[t], (byte) ' ');
            return n;
        }

        public int put(int t, int i, int v) {
            if (t < 0 || t > 3) return -1;
            if (texts[t] == null) return find(1);
            if (i < 0 || i >= texts[t].length) return find(2);
            int was = texts[t][i];
            texts[t][i] = (byte) v;
            return was + 1000;
        }

        private static byte[] bytesOf(Byte[] text) {
            byte[] bytes = new byte[text.length];
            for (int k = 0; k < bytes.length; k++) bytes[k] = text[k];
            return bytes;
        }

        public int fault(int t) {
            if (t < 0 || t > 3) return -1;
            if (texts[t] == null) return find(1);
            return faultOf(bytesOf(texts[t]));
        }

        public int group(int t) {
            if (t < 0 || t > 3) return -1;
            if (texts[t] == null) return find(1);
            if (faultOf(bytesOf(texts[t])) != -9) return -4;
            Parts parts = new Parts(bytesOf(texts[t]));
            to = parts.to.toArray(new int[0][]);
            relators = parts.relators;
            states = new ArrayList<>();
            states.add(fresh(0));
            Collections.fill(kept, null);
            return points();
        }

        static int faultOf(byte[] text) {
            return new Parts(text).fault;
        }

        /** A TEXT taken apart sign by sign, by what may stand there next. */
        private static final class Parts {
            final List<int[]> to = new ArrayList<>();
            final List<int[]> relators = new ArrayList<>();
            int fault = -9;

            Parts(byte[] bytes) {
                StringBuilder s = new StringBuilder();
                for (byte b : bytes) s.append((char) (b & 255));
                String text = s.toString();
                int at = 0;
                int points = 0;
                while (fault == -9) {
                    while (at < text.length() && text.charAt(at) == ' ') at++;
                    String rest = text.substring(at);
                    if (rest.isEmpty()) {
                        if (to.isEmpty() || !together()) fault = text.length();
                        return;
                    }
                    char first = rest.charAt(0);
                    if (relators.isEmpty() && to.size() < 3 && first == 'a' + to.size()) {
                        if (to.isEmpty()) {
                            points = figures(rest);
                            if (points < 2) {
                                fault = at + 1 + points;
                                return;
                            }
                        }
                        int bad = generator(rest, points);
                        if (bad >= 0) fault = at + bad;
                        at += 1 + points;
                    } else if (!to.isEmpty() && relators.size() < 3 && first == '=') {
                        int n = 0;
                        while (1 + n < rest.length() && "abcABC".indexOf(rest.charAt(1 + n)) >= 0) n++;
                        int bad = relator(rest.substring(1, 1 + n));
                        if (bad >= 0) fault = at + bad;
                        at += 1 + n;
                    } else {
                        fault = at;
                    }
                }
            }

            private static int figures(String rest) {
                int n = 0;
                while (n < 5 && 1 + n < rest.length() && rest.charAt(1 + n) >= '0' && rest.charAt(1 + n) <= '9') n++;
                return n;
            }

            private int generator(String rest, int points) {
                int[] images = new int[points];
                String allowed = "01234".substring(0, points);
                for (int k = 0; k < points; k++) {
                    if (1 + k >= rest.length()) return 1 + k;
                    char c = rest.charAt(1 + k);
                    if (allowed.indexOf(c) < 0) return 1 + k;
                    allowed = allowed.replace(String.valueOf(c), "");
                    images[k] = c - '0';
                }
                to.add(images);
                return -1;
            }

            private int relator(String letters) {
                int[] numbers = new int[letters.length()];
                for (int k = 0; k < letters.length(); k++) {
                    int number = "abc".indexOf(letters.charAt(k)) + 1;
                    if (number == 0) number = -"ABC".indexOf(letters.charAt(k)) - 1;
                    if (k == 8 || Math.abs(number) > to.size()) return 1 + k;
                    numbers[k] = number;
                }
                if (numbers.length == 0) return 1;
                for (int p = 0; p < to.get(0).length; p++) {
                    int here = p;
                    for (int l : numbers) here = step(to.toArray(new int[0][]), here, l);
                    if (here != p) return 0;
                }
                relators.add(numbers);
                return -1;
            }

            private boolean together() {
                TreeSet<Integer> seen = new TreeSet<>();
                ArrayDeque<Integer> todo = new ArrayDeque<>();
                todo.add(0);
                while (!todo.isEmpty()) {
                    int p = todo.poll();
                    if (!seen.add(p)) continue;
                    for (int[] images : to) todo.add(images[p]);
                }
                return seen.size() == to.get(0).length;
            }
        }

        private static int step(int[][] to, int point, int letter) {
            if (letter > 0) return to[letter - 1][point];
            for (int p = 0; p < to[-letter - 1].length; p++) {
                if (to[-letter - 1][p] == point) return p;
            }
            throw new IllegalStateException();
        }

        private boolean isPoint(int p) {
            return p >= 0 && p < points();
        }

        private boolean isLetter(int l) {
            return l != 0 && l != Integer.MIN_VALUE && Math.abs(l) <= to.length;
        }

        private State fresh(int order) {
            State s = new State();
            s.order = order;
            s.from = new int[points()];
            s.by = new int[points()];
            s.from[0] = -9;
            s.by[0] = -9;
            s.reached.add(0);
            List<Integer> letters = new ArrayList<>();
            for (int g = 1; g <= to.length; g++) {
                letters.add(g);
                letters.add(-g);
            }
            if (order == 1) Collections.reverse(letters);
            if (order == 2) {
                dive(s, 0, letters);
            } else {
                for (int k = 0; k < s.reached.size(); k++) {
                    for (int l : letters) visit(s, s.reached.get(k), l);
                }
            }
            s.signOf = new int[edges()];
            for (int e = 0; e < edges(); e++) {
                if (!isBranch(s, e)) s.signOf[e] = ++s.signs;
            }
            for (int k = 1; k <= s.signs; k++) s.left.add(k);
            for (int p = 0; p < points(); p++) {
                for (int[] relator : relators) {
                    List<Integer> rule = new ArrayList<>();
                    write(s, p, relator, rule);
                    s.rules.add(reduced(rule));
                }
            }
            return s;
        }

        private void dive(State s, int here, List<Integer> letters) {
            for (int l : letters) {
                if (visit(s, here, l)) dive(s, step(to, here, l), letters);
            }
        }

        private boolean visit(State s, int here, int l) {
            int next = step(to, here, l);
            if (s.reached.contains(next)) return false;
            s.reached.add(next);
            s.from[next] = here;
            s.by[next] = l;
            return true;
        }

        private boolean isBranch(State s, int e) {
            int start = e / to.length;
            int letter = e % to.length + 1;
            int end = step(to, start, letter);
            return s.from[end] == start && s.by[end] == letter || s.from[start] == end && s.by[start] == -letter;
        }

        private int write(State s, int point, int[] letters, List<Integer> out) {
            int here = point;
            for (int l : letters) {
                int next = step(to, here, l);
                int sign = l > 0 ? s.signOf[here * to.length + l - 1] : -s.signOf[next * to.length - l - 1];
                if (sign != 0) out.add(sign);
                here = next;
            }
            return here;
        }

        private static List<Integer> reduced(List<Integer> word) {
            List<Integer> out = new ArrayList<>(word);
            int k = 0;
            while (k + 1 < out.size()) {
                if (out.get(k) == -out.get(k + 1)) {
                    out.remove(k);
                    out.remove(k);
                    k = 0;
                } else {
                    k++;
                }
            }
            return out;
        }

        private List<Integer> wayOf(int point) {
            State s = now();
            List<Integer> out = new ArrayList<>();
            for (int p = point; p != 0; p = s.from[p]) out.add(0, s.by[p]);
            return out;
        }

        private int kind(int e) {
            State s = now();
            if (isBranch(s, e)) return 1;
            int start = e / to.length;
            int end = step(to, start, e % to.length + 1);
            if (start == end) return 3;
            return branchBetween(start, end) >= 0 ? 4 : 2;
        }

        private int branchBetween(int p, int q) {
            for (int e = 0; e < edges(); e++) {
                int start = e / to.length;
                int end = step(to, start, e % to.length + 1);
                if (isBranch(now(), e) && (start == p && end == q || start == q && end == p)) return e;
            }
            return -1;
        }

        public int goes(int point, int letter) {
            return isPoint(point) && isLetter(letter) ? step(to, point, letter) : -1;
        }

        private int pointTells(int point, int what) {
            State s = now();
            int[] all = {s.from[point], s.by[point], wayOf(point).size(), s.reached.indexOf(point)};
            return all[what];
        }

        public int reached(int point, int what) {
            if (!isPoint(point) || what < 0 || what > 3) return -1;
            return tell(pointTells(point, what));
        }

        public int way(int point, int r) {
            if (!isPoint(point) || r < 0 || r > 5) return -1;
            rows[r] = wayOf(point).toArray(new Integer[0]);
            return rows[r].length;
        }

        private int edgeTells(int e, int what) {
            State s = now();
            int start = e / to.length;
            int[] all = {kind(e), start, step(to, start, e % to.length + 1), s.signOf[e], s.left.contains(s.signOf[e]) ? 1 : 0};
            return all[what];
        }

        public int edge(int e, int what) {
            if (e < 0 || e >= edges() || what < 0 || what > 4) return -1;
            return tell(edgeTells(e, what));
        }

        public int mark(int e, int kind) {
            if (e < 0 || e >= edges() || kind < 1 || kind > 4) return -1;
            if (!(kind(e) == kind || kind == 2 && kind(e) > 2)) return find(3);
            int p = e / to.length;
            int q = step(to, p, e % to.length + 1);
            if (kind == 1) return tell(now().reached.get(Math.max(now().reached.indexOf(p), now().reached.indexOf(q))));
            if (kind == 2) return tell(wayOf(p).size() + wayOf(q).size() + 1);
            if (kind == 4) return tell(branchBetween(p, q));
            int loops = 0;
            for (int[] images : to) loops += images[p] == p ? 1 : 0;
            return tell(loops);
        }

        private static int[] numbers(Integer[] row) {
            int[] out = new int[row.length];
            for (int k = 0; k < out.length; k++) out[k] = row[k];
            return out;
        }

        public int written(int point, int r, int t) {
            if (!isPoint(point) || r < 0 || r > 5 || t < 0 || t > 5) return -1;
            if (rows[r] == null) return find(1);
            for (int l : rows[r]) {
                if (!isLetter(l)) return find(3);
            }
            List<Integer> out = new ArrayList<>();
            tell(write(now(), point, numbers(rows[r]), out));
            rows[t] = reduced(out).toArray(new Integer[0]);
            return rows[t].length;
        }

        public int spelt(int r, int t) {
            if (r < 0 || r > 5 || t < 0 || t > 5) return -1;
            if (rows[r] == null) return find(1);
            List<Integer> out = new ArrayList<>();
            for (int v : rows[r]) {
                if (v == 0 || v == Integer.MIN_VALUE || Math.abs(v) > now().signs) return find(3);
                int e = 0;
                while (now().signOf[e] != Math.abs(v)) e++;
                List<Integer> one = new ArrayList<>(wayOf(e / to.length));
                one.add(e % to.length + 1);
                one.addAll(overOf(wayOf(step(to, e / to.length, e % to.length + 1))));
                out.addAll(v > 0 ? one : overOf(one));
            }
            out = reduced(out);
            if (out.size() > 40) return -6;
            rows[t] = out.toArray(new Integer[0]);
            return rows[t].length;
        }

        private static List<Integer> overOf(List<Integer> word) {
            List<Integer> out = new ArrayList<>();
            for (int v : word) out.add(0, -v);
            return out;
        }

        private boolean isRule(int i) {
            return i >= 0 && i < now().rules.size();
        }

        public int rule(int i, int k) {
            if (!isRule(i) || k < 0 || k >= now().rules.get(i).size()) return -1;
            tell(now().rules.get(i).get(k));
            return now().rules.get(i).size();
        }

        public int often(int i, int sign) {
            if (!isRule(i) || !now().left.contains(sign)) return -1;
            int above = Collections.frequency(now().rules.get(i), sign);
            int under = Collections.frequency(now().rules.get(i), -sign);
            tell(above - under);
            return above + under;
        }

        private static boolean like(List<Integer> a, List<Integer> b) {
            if (a.isEmpty() && b.isEmpty()) return true;
            List<Integer> turned = new ArrayList<>(a);
            for (int k = 0; k < a.size(); k++) {
                turned.add(turned.remove(0));
                if (turned.equals(b) || overOf(turned).equals(b)) return true;
            }
            return false;
        }

        public int alike(int i, int j) {
            if (!isRule(i) || !isRule(j) || i == j) return -1;
            return like(now().rules.get(i), now().rules.get(j)) ? 1 : 0;
        }

        private void deed(State next) {
            states.add(next);
        }

        public int order(int o) {
            if (o < 0 || o > 2) return -1;
            if (states.isEmpty() || now().order == o) return -4;
            if (deeds() == 20) return -2;
            deed(fresh(o));
            return now().rules.size();
        }

        private static State turned(State s, int i) {
            State next = s.twin();
            List<Integer> rule = next.rules.get(i);
            if (rule.isEmpty()) return null;
            rule.add(rule.remove(0));
            next.rules.set(i, reduced(rule));
            return next;
        }

        private static State turnedOver(State s, int i) {
            State next = s.twin();
            if (next.rules.get(i).isEmpty()) return null;
            next.rules.set(i, overOf(next.rules.get(i)));
            return next;
        }

        private static State joined(State s, int i, int j) {
            State next = s.twin();
            List<Integer> rule = next.rules.get(i);
            rule.addAll(s.rules.get(j));
            next.rules.set(i, reduced(rule));
            return i == j || next.rules.get(i).size() > 16 ? null : next;
        }

        private static State without(State s, int i) {
            boolean can = s.rules.get(i).isEmpty();
            for (int j = 0; j < i; j++) can |= like(s.rules.get(i), s.rules.get(j));
            State next = s.twin();
            next.rules.remove(i);
            return can ? next : null;
        }

        private static State solved(State s, int i, int sign) {
            State next = s.twin();
            List<Integer> rule = next.rules.remove(i);
            int at = Math.max(rule.indexOf(sign), rule.indexOf(-sign));
            List<Integer> u = rule.subList(0, at);
            List<Integer> v = rule.subList(at + 1, rule.size());
            List<Integer> is = new ArrayList<>();
            if (rule.get(at) > 0) {
                is.addAll(overOf(u));
                is.addAll(overOf(v));
            } else {
                is.addAll(v);
                is.addAll(u);
            }
            for (int j = 0; j < next.rules.size(); j++) {
                List<Integer> out = new ArrayList<>();
                for (int k : next.rules.get(j)) {
                    if (k == sign) out.addAll(is);
                    else if (k == -sign) out.addAll(overOf(is));
                    else out.add(k);
                }
                next.rules.set(j, reduced(out));
                if (next.rules.get(j).size() > 16) return null;
            }
            next.left.remove(sign);
            return next;
        }

        private static List<Integer> onceIn(List<Integer> rule) {
            TreeSet<Integer> once = new TreeSet<>();
            for (int v : rule) {
                if (Collections.frequency(rule, v) + Collections.frequency(rule, -v) == 1) once.add(Math.abs(v));
            }
            return new ArrayList<>(once);
        }

        private int change(int i, State next) {
            if (next == null) return -4;
            if (deeds() == 20) return -2;
            deed(next);
            return now().rules.get(i).size();
        }

        public int turn(int i) {
            return isRule(i) ? change(i, turned(now(), i)) : -1;
        }

        public int over(int i) {
            return isRule(i) ? change(i, turnedOver(now(), i)) : -1;
        }

        public int join(int i, int j) {
            if (!isRule(i) || !isRule(j) || i == j) return -1;
            State next = joined(now(), i, j);
            return next == null ? -6 : change(i, next);
        }

        public int cut(int i) {
            if (!isRule(i)) return -1;
            State next = without(now(), i);
            if (next == null) return -4;
            if (deeds() == 20) return -2;
            deed(next);
            return now().rules.size();
        }

        public int solve(int i, int sign) {
            if (!isRule(i) || !now().left.contains(sign)) return -1;
            if (!onceIn(now().rules.get(i)).contains(sign)) return -4;
            State next = solved(now(), i, sign);
            if (next == null) return -6;
            if (deeds() == 20) return -2;
            deed(next);
            return now().rules.size();
        }

        private static State shorter(State s) {
            for (int i = 0; i < s.rules.size(); i++) {
                State next = without(s, i);
                if (next != null) return next;
            }
            List<Integer> byLength = new ArrayList<>();
            for (int i = 0; i < s.rules.size(); i++) byLength.add(i);
            byLength.sort((i, j) -> s.rules.get(i).size() - s.rules.get(j).size());
            for (int i : byLength) {
                for (int sign : onceIn(s.rules.get(i))) {
                    State next = solved(s, i, sign);
                    if (next != null) return next;
                }
            }
            return null;
        }

        public int shorten() {
            if (states.isEmpty() || shorter(now()) == null) return -4;
            if (deeds() == 20) return -2;
            State s = now();
            int n = 0;
            for (State next = shorter(s); n < 20 && next != null; next = shorter(s)) {
                s = next;
                n++;
            }
            deed(s);
            return n;
        }

        public int undo(int n) {
            if (n < 0 || n > deeds()) return -1;
            int undone = deeds() - n;
            if (undone > 0) states = new ArrayList<>(states.subList(0, n + 1));
            return undone;
        }

        public int keep(int k) {
            if (k < 0 || k > 2) return -1;
            if (states.isEmpty()) return -4;
            kept.set(k, new ArrayList<>(states));
            return deeds();
        }

        public int on(int k) {
            if (k < 0 || k > 2) return -1;
            if (kept.get(k) == null) return find(1);
            states = new ArrayList<>(kept.get(k));
            return deeds();
        }

        public int lots(int n, int seed) {
            if (n < 1 || n > 10 || seed < 1 || seed > 2147483646) return -1;
            if (states.isEmpty()) return -4;
            if (deeds() + n > 20) return -2;
            long x = seed;
            for (int k = 0; k < n; k++) {
                x = x * 48271 % 2147483647;
                State next = byLot((int) x, now());
                deed(next == null ? now().twin() : next);
            }
            return now().rules.size();
        }

        private State byLot(int x, State s) {
            int what = x / 8 % 6;
            if (what == 5) return fresh((s.order + 1) % 3);
            int all = s.rules.size();
            if (all == 0) return null;
            int i = x / 64 % all;
            switch (what) {
                case 0: return turned(s, i);
                case 1: return turnedOver(s, i);
                case 2: return joined(s, i, i == all - 1 ? 0 : i + 1);
                case 3: return without(s, i);
                default: return onceIn(s.rules.get(i)).isEmpty() ? null : solved(s, i, onceIn(s.rules.get(i)).get(0));
            }
        }

        /** How many rows are left, each cleared of those ahead of it, that are not 0. */
        private static int rankOf(List<int[]> matrix, int width, int p) {
            List<int[]> base = new ArrayList<>();
            for (int[] start : matrix) {
                int[] row = start.clone();
                for (int[] b : base) {
                    int lead = leadOf(b);
                    int times = row[lead];
                    for (int k = 0; k < width; k++) row[k] = Math.floorMod(row[k] - times * b[k], p);
                }
                for (int k = 0; k < width; k++) row[k] = Math.floorMod(row[k], p);
                int lead = leadOf(row);
                if (lead < 0) continue;
                int inverse = 1;
                while (inverse * row[lead] % p != 1) inverse++;
                for (int k = 0; k < width; k++) row[k] = row[k] * inverse % p;
                base.add(row);
            }
            return base.size();
        }

        private static int leadOf(int[] row) {
            for (int k = 0; k < row.length; k++) {
                if (row[k] != 0) return k;
            }
            return -1;
        }

        private static boolean isPrime(int p) {
            return Arrays.asList(2, 3, 5, 7).contains(p);
        }

        public int rank(int p) {
            if (!isPrime(p)) return -1;
            if (states.isEmpty()) return -4;
            List<int[]> matrix = new ArrayList<>();
            for (List<Integer> rule : now().rules) {
                int[] row = new int[now().signs];
                for (int v : rule) row[Math.abs(v) - 1] += v > 0 ? 1 : -1;
                matrix.add(row);
            }
            int rank = rankOf(matrix, now().signs, p);
            tell(now().left.size() - rank);
            return rank;
        }

        /** By trying all the ways. */
        public int ways(int p) {
            if (!isPrime(p)) return -1;
            if (states.isEmpty()) return -4;
            int n = 0;
            int all = (int) Math.pow(p, to.length);
            for (int number = 0; number < all; number++) {
                boolean fits = true;
                for (int[] relator : relators) {
                    int sum = 0;
                    for (int l : relator) {
                        int value = number / (int) Math.pow(p, Math.abs(l) - 1) % p;
                        sum += l > 0 ? value : -value;
                    }
                    fits &= Math.floorMod(sum, p) == 0;
                }
                if (fits) n++;
            }
            share(n, 1);
            int answer = 0;
            for (int m = n; m > 1; m /= p) answer++;
            return answer;
        }

        private void share(long above, long below) {
            long d = java.math.BigInteger.valueOf(above).gcd(java.math.BigInteger.valueOf(below)).longValue();
            upper = above / d;
            lower = below / d;
        }

        public int odds(int k, int m, int n) {
            if (!isPoint(k) || !isPoint(m) || n < 0 || n > 8) return -1;
            long all = 1;
            long[] at = new long[points()];
            at[k] = 1;
            for (int s = 0; s < n; s++) {
                long[] next = new long[points()];
                for (int p = 0; p < points(); p++) {
                    for (int g = 1; g <= to.length; g++) {
                        next[step(to, p, g)] += at[p];
                        next[step(to, p, -g)] += at[p];
                    }
                }
                at = next;
                all *= 2L * to.length;
            }
            share(at[m], all);
            return 1;
        }

        public int mid(int k, int n) {
            if (!isPoint(k) || n < 0 || n > 4) return -1;
            long[] sums = new long[2];
            drawAll(k, new int[n], 0, sums);
            share(sums[0], sums[1]);
            return 1;
        }

        private void drawAll(int k, int[] word, int n, long[] sums) {
            if (n == word.length) {
                List<Integer> out = new ArrayList<>();
                write(now(), k, word, out);
                sums[0] += reduced(out).size();
                sums[1]++;
                return;
            }
            for (int l = -to.length; l <= to.length; l++) {
                if (l == 0) continue;
                word[n] = l;
                drawAll(k, word, n + 1, sums);
            }
        }

        public int asked() {
            return asked;
        }

        public long upper() {
            return upper;
        }

        public long lower() {
            return lower;
        }

        public int count(int what) {
            State s = now();
            switch (what) {
                case 0: return points();
                case 1: return to.length;
                case 2: return relators.size();
                case 3: return s.order;
                case 4: return s.signs;
                case 5: return s.left.stream().mapToInt(k -> 1 << k - 1).sum();
                case 6: return s.rules.size();
                case 7: return s.rules.stream().mapToInt(List::size).sum();
                case 8: return deeds();
                case 9: case 10: return kinds(what - 6);
                case 11: return (int) Arrays.stream(rows).filter(r -> r != null).count();
                case 12: return (int) Arrays.stream(texts).filter(t -> t != null).count();
                case 13: return (int) kept.stream().filter(b -> b != null).count();
                default: return -1;
            }
        }

        private int kinds(int kind) {
            int n = 0;
            for (int e = 0; e < edges(); e++) n += kind(e) == kind ? 1 : 0;
            return n;
        }

        public int finding() {
            return finding;
        }

        public int findings(int f) {
            return f < 1 || f > 5 ? -1 : found[f];
        }

        public long digest() {
            List<Long> all = new ArrayList<>();
            for (int w = 0; w < 14; w++) all.add((long) count(w));
            for (int p = 0; p < points(); p++) {
                for (int w = 0; w < 4; w++) all.add((long) pointTells(p, w));
            }
            for (int e = 0; e < edges(); e++) {
                for (int w = 0; w < 5; w++) all.add((long) edgeTells(e, w));
            }
            for (List<Integer> rule : now().rules) {
                all.add((long) rule.size());
                for (int v : rule) all.add((long) v);
            }
            for (List<State> book : kept) all.add(book == null ? -1L : book.size() - 1L);
            for (Integer[] row : rows) {
                all.add(row == null ? -1L : row.length);
                if (row != null) for (int v : row) all.add((long) v);
            }
            for (Byte[] text : texts) {
                all.add(text == null ? -1L : text.length);
                if (text != null) for (byte v : text) all.add((long) v);
            }
            long h = 17;
            for (long v : all) h = 31 * h + v;
            return h;
        }
    }
}
