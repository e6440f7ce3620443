import java.lang.reflect.Method;
import java.lang.reflect.Modifier;
import java.util.Arrays;

/**
 * The document's sentences that name a boundary case (too small, too large, empty, full, around, refused), one by one:
 * each has a test of its own, that bears its words. What is refused is looked at for what it may not change, too.
 */
public final class BoundaryTest {
    private static final int BAD = -1, FULL = -2, FINDING = -3, STATE = -4, SPENT = -6, NONE = -9;
    private static final int NOTHING = 1, BEYOND = 2, UNLIKE = 3, NOUGHT = 4, SIZE = 5;
    private static final int MAX = Integer.MAX_VALUE, MIN = Integer.MIN_VALUE;
    private static final int[] PRIMES = {2, 3, 5, 7};
    /**
     * BROAD: EDGES 0, 4 are BRANCHES, 1, 3 TWINS (SIGNS 1, 3), 2 a SIGN (2), 5 a LOOP (SIGN 4).
     * RULES: 2; 1 3; 3 3; 2; 3 1; 2 4 1; 2; 4 4; 1 2 4.
     */
    private static final String THREE = "a120 b102 =aaa =bb =abab";
    /** EDGE 0 is a BRANCH, 1 a LOOP (SIGN 1), 2 a TWIN (2), 3 a LOOP (3). RULES: 1 eight times; 3 eight times. */
    private static final String LONG = "a10 b01 =bbbbbbbb";
    /** RULES: 1 (8 times); 3 1 1 1 1 1; 3 (8 times); 2 1 -2 3 3 3 3 3: none can be CUT or SOLVED. */
    private static final String STUCK = "a10 b01 =bbbbbbbb =abAbbbbb";
    /** RULES: none; 1 1; none; 3 3. */
    private static final String EMPTY = "a10 b01 =bB =bb";
    /**
     * Five POINTS, 0 and 1 by a, 1 and 2 by b, 2, 3, 4 by c. BROAD: BRANCHES are EDGES 0, 4, 8, 14; SIGNS 1 to 11
     * EDGES 1, 2, 3, 5, 6, 7, 9, 10, 11, 12, 13.
     */
    private static final String FIVE = "a10234b02134c01342";
    private static int wrong = 0;

    /** A call, asked of an object. */
    private interface Call {
        int on(SubgroupWriter x);
    }

    private static void due(String sentence, long got, long want) {
        if (got == want) return;
        wrong++;
        System.out.println(sentence + ": answered " + got + ", due is " + want);
    }

    /** All that a call may change, but for findings. */
    private static long[] stateOf(SubgroupWriter x) {
        return new long[] {x.digest(), x.asked(), x.upper(), x.lower()};
    }

    private static long[] findingsOf(SubgroupWriter x) {
        return new long[] {x.finding(), x.findings(1), x.findings(2), x.findings(3), x.findings(4), x.findings(5)};
    }

    private static void same(String sentence, long[] got, long[] want) {
        if (Arrays.equals(got, want)) return;
        wrong++;
        System.out.println(sentence + ": is " + Arrays.toString(got) + ", due is " + Arrays.toString(want));
    }

    /** BAD, FULL, STATE, SPENT: nothing changes at all. */
    private static void refused(String sentence, SubgroupWriter x, int want, Call call) {
        tellSomething(x);
        long[] before = stateOf(x);
        long[] found = findingsOf(x);
        due(sentence, call.on(x), want);
        same(sentence + ", changes nothing", stateOf(x), before);
        same(sentence + ", is no finding", findingsOf(x), found);
    }

    /** FINDING: nothing changes but finding(), findings(). */
    private static void found(String sentence, SubgroupWriter x, int finding, Call call) {
        tellSomething(x);
        long[] before = stateOf(x);
        long[] found = findingsOf(x);
        due(sentence, call.on(x), FINDING);
        same(sentence + ", changes nothing", stateOf(x), before);
        found[0] = finding;
        found[finding]++;
        same(sentence + ", is told", findingsOf(x), found);
    }

    /** So that it can be seen that what was told last stays. */
    private static void tellSomething(SubgroupWriter x) {
        x.reached(0, 0);
        x.odds(0, 0, 0);
    }

    private static SubgroupWriter fresh() {
        return new SubgroupWriter();
    }

    private static void type(SubgroupWriter x, int t, String text) {
        x.text(t, text.length());
        for (int k = 0; k < text.length(); k++) x.put(t, k, text.charAt(k));
    }

    private static SubgroupWriter of(String text) {
        SubgroupWriter x = fresh();
        type(x, 0, text);
        if (x.group(0) < 2) due("group of " + text, x.fault(0), NONE);
        return x;
    }

    private static void fill(SubgroupWriter x, int r, int... values) {
        x.row(r, values.length);
        for (int k = 0; k < values.length; k++) x.lay(r, k, values[k]);
    }

    /** A GROUP with a ROW 0 of these. */
    private static SubgroupWriter with(String text, int... values) {
        SubgroupWriter x = of(text);
        fill(x, 0, values);
        return x;
    }

    private static int[] times(int n, int v) {
        int[] all = new int[n];
        Arrays.fill(all, v);
        return all;
    }

    private static String blanks(int n) {
        return " ".repeat(n);
    }

    /** A GROUP behind n DEEDS that change nothing else: a RULE is TURNED OVER, and again. */
    private static SubgroupWriter behind(int n, String text, int rule) {
        SubgroupWriter x = of(text);
        for (int k = 0; k < n; k++) x.over(rule);
        due("deeds done", x.count(8), n);
        return x;
    }

    private static void dueRow(String sentence, SubgroupWriter x, int r, int... values) {
        for (int k = 0; k < values.length; k++) {
            due(sentence + ", at " + k, x.at(r, k), 1);
            due(sentence + ", place " + k, x.asked(), values[k]);
        }
        due(sentence + ", no more", x.at(r, values.length), FINDING);
    }

    private static void dueRule(String sentence, SubgroupWriter x, int i, int... signs) {
        for (int k = 0; k < signs.length; k++) {
            due(sentence + ", rule " + i + " has", x.rule(i, k), signs.length);
            due(sentence + ", rule " + i + ", sign " + k, x.asked(), signs[k]);
        }
        due(sentence + ", rule " + i + ", no more", x.rule(i, signs.length), BAD);
    }

    private static void dueShare(String sentence, SubgroupWriter x, int answer, long upper, long lower) {
        due(sentence, answer, 1);
        due(sentence + ", upper", x.upper(), upper);
        due(sentence + ", lower", x.lower(), lower);
    }

    private static void dueTold(String sentence, SubgroupWriter x, int answer, int told) {
        due(sentence, answer, 1);
        due(sentence + ", told", x.asked(), told);
    }

    public static void main(String[] args) throws Exception {
        newObject(); rows(); texts(); layAndAt(); tear(); copy(); copyBeyond(); mean(); put();
        blanksInTexts(); generatorsInTexts(); pointsInTexts(); figuresInTexts(); relatorsInTexts(); lettersInTexts();
        relatorsThatMove(); endsOfTexts(); faultAndGroup(); groupAnew();
        goes(); treesOfThreeOrders(); deepGoesBack(); reachedAndWay(); edges(); kinds(); mark();
        written(); writtenRefused(); spelt(); speltRefused(); rules(); often(); alike();
        order(); turn(); over(); join(); cut(); solve(); solvePuts(); shorten(); shortenChooses(); undo(); keepAndOn(); keptDeeds();
        lots(); lotsOfEachKind(); lotsThatCannotBe(); lotsFull();
        rank(); ways(); odds(); mid(); asked(); upperAndLower(); counts(); findings(); digest();
        withoutGroup(); farNumbers();
        if (wrong != 0) System.exit(1);
        System.out.println("all boundaries hold");
    }

    // ---- 1 rows, texts, groups

    private static void newObject() {
        SubgroupWriter x = fresh();
        for (int what = 0; what <= 13; what++) due("1 No ROWS, TEXTS, GROUP: count " + what, x.count(what), 0);
        due("38 0 before", x.upper(), 0);
        due("39 1 before", x.lower(), 1);
        due("37 0 before", x.asked(), 0);
        due("41 0 before any", x.finding(), 0);
        for (int f = 1; f <= 5; f++) due("42 none before", x.findings(f), 0);
        for (int r = 0; r <= 5; r++) {
            int row = r;
            found("ROWS are missing at first", fresh(), NOTHING, y -> y.at(row, 0));
        }
        for (int t = 0; t <= 3; t++) {
            int text = t;
            found("TEXTS are missing at first", fresh(), NOTHING, y -> y.put(text, 0, 65));
        }
        for (int k = 0; k <= 2; k++) {
            int place = k;
            found("kept BOOKS are missing at first", fresh(), NOTHING, y -> y.on(place));
        }
    }

    private static void rows() {
        for (int r = 0; r <= 5; r++) {
            int row = r;
            SubgroupWriter x = fresh();
            due("2 a ROW of 0 ints", x.row(r, 0), 0);
            due("2 a ROW of 0 ints is there", x.count(11), 1);
            found("2 a ROW of 0 ints has no place", x, BEYOND, y -> y.at(row, 0));
            due("2 a ROW of 40 ints", x.row(r, 40), 40);
            due("2 it is still one ROW", x.count(11), 1);
            dueTold("2 a ROW of 40 ints has place 39", x, x.lay(r, 39, 7), 0);
            found("2 a ROW of 40 ints has no place 40", x, BEYOND, y -> y.at(row, 40));
            refused("2 BAD: n above 40", x, BAD, y -> y.row(row, 41));
            found("2 SIZE: below 0", x, SIZE, y -> y.row(row, -1));
            dueTold("2 what is refused leaves the ROW", x, x.at(r, 39), 7);
            due("2 a ROW anew", x.row(r, 40), 40);
            dueTold("2 a ROW anew: ints 0", x, x.at(r, 39), 0);
            due("2 a ROW of 1 int", x.row(r, 1), 1);
            dueTold("2 a ROW of 1 int has place 0", x, x.at(r, 0), 0);
            found("2 a ROW of 1 int has no place 1", x, BEYOND, y -> y.at(row, 1));
        }
        for (int r : new int[] {MIN, -1, 6, MAX}) {
            refused("2 BAD: no ROW " + r, fresh(), BAD, y -> y.row(r, 1));
            refused("2 BAD ahead of SIZE", fresh(), BAD, y -> y.row(r, -1));
        }
        refused("2 BAD: n far above 40", fresh(), BAD, y -> y.row(0, MAX));
        found("2 SIZE: far below 0", fresh(), SIZE, y -> y.row(0, MIN));
        SubgroupWriter x = fresh();
        for (int r = 0; r <= 5; r++) x.row(r, 40);
        due("six ROWS at once", x.count(11), 6);
        for (int r = 0; r <= 5; r++) x.lay(r, 39, 100 + r);
        for (int r = 0; r <= 5; r++) dueTold("each ROW has its own places", x, x.at(r, 39), 100 + r);
    }

    private static void texts() {
        for (int t = 0; t <= 3; t++) {
            int text = t;
            SubgroupWriter x = fresh();
            due("8 a TEXT of 0 bytes", x.text(t, 0), 0);
            due("8 a TEXT of 0 bytes is there", x.count(12), 1);
            found("8 a TEXT of 0 bytes has no place", x, BEYOND, y -> y.put(text, 0, 65));
            due("8 a TEXT of 60 bytes", x.text(t, 60), 60);
            due("8 it is still one TEXT", x.count(12), 1);
            due("8 blanks", x.put(t, 59, 65), 1032);
            due("8 blanks", x.put(t, 0, 65), 1032);
            found("9 BEYOND: place 60 of 60", x, BEYOND, y -> y.put(text, 60, 65));
            refused("8 BAD: n above 60", x, BAD, y -> y.text(text, 61));
            found("8 SIZE: below 0", x, SIZE, y -> y.text(text, -1));
            due("8 what is refused leaves the TEXT", x.put(t, 59, 66), 1065);
            due("8 a TEXT anew", x.text(t, 60), 60);
            due("8 a TEXT anew: blanks", x.put(t, 59, 66), 1032);
        }
        for (int t : new int[] {MIN, -1, 4, MAX}) {
            refused("8 BAD: no TEXT " + t, fresh(), BAD, y -> y.text(t, 1));
            refused("8 BAD ahead of SIZE", fresh(), BAD, y -> y.text(t, -1));
        }
        refused("8 BAD: n far above 60", fresh(), BAD, y -> y.text(0, MAX));
        found("8 SIZE: far below 0", fresh(), SIZE, y -> y.text(0, MIN));
        SubgroupWriter x = fresh();
        for (int t = 0; t <= 3; t++) x.text(t, 60);
        due("four TEXTS at once", x.count(12), 4);
        for (int t = 0; t <= 3; t++) x.put(t, 59, 65 + t);
        for (int t = 0; t <= 3; t++) due("each TEXT has its own places", x.put(t, 59, 0), 1065 + t);
    }

    private static SubgroupWriter withRow(int r, int... values) {
        SubgroupWriter x = fresh();
        fill(x, r, values);
        return x;
    }

    private static void layAndAt() {
        SubgroupWriter x = withRow(5, MAX, 0, MIN);
        dueTold("3 what it was: the greatest", x, x.lay(5, 0, 1), MAX);
        dueTold("3 what it was: the least", x, x.lay(5, 2, -1), MIN);
        dueTold("3 what it was: the one laid just now", x, x.lay(5, 2, 4), -1);
        dueTold("3 place i alone is changed", x, x.at(5, 1), 0);
        dueTold("4 the first place", x, x.at(5, 0), 1);
        dueTold("4 the last place", x, x.at(5, 2), 4);
        for (int i : new int[] {MIN, -1, 3, 40, MAX}) {
            found("3 BEYOND: place " + i, withRow(5, 1, 2, 3), BEYOND, y -> y.lay(5, i, 9));
            found("4 BEYOND: place " + i, withRow(5, 1, 2, 3), BEYOND, y -> y.at(5, i));
            found("3 NOTHING ahead of BEYOND", withRow(5, 1), NOTHING, y -> y.lay(4, i, 9));
            found("4 NOTHING ahead of BEYOND", withRow(5, 1), NOTHING, y -> y.at(4, i));
        }
        for (int r : new int[] {MIN, -1, 6, MAX}) {
            refused("3 BAD: no ROW " + r, withRow(5, 1), BAD, y -> y.lay(r, 0, 9));
            refused("3 BAD ahead of BEYOND", withRow(5, 1), BAD, y -> y.lay(r, -1, 9));
            refused("4 BAD: no ROW " + r, withRow(5, 1), BAD, y -> y.at(r, 0));
            refused("4 BAD ahead of BEYOND", withRow(5, 1), BAD, y -> y.at(r, -1));
        }
        found("3 NOTHING: a ROW that is missing", withRow(5, 1), NOTHING, y -> y.lay(0, 0, 9));
        found("4 NOTHING: a ROW that is missing", withRow(5, 1), NOTHING, y -> y.at(0, 0));
    }

    private static void tear() {
        for (int r = 0; r <= 5; r++) {
            int row = r;
            SubgroupWriter x = fresh();
            for (int other = 0; other <= 5; other++) fill(x, other, other);
            due("5 A ROW is missing: 1", x.tear(r), 1);
            due("5 one alone", x.count(11), 5);
            found("5 it is missing then", x, NOTHING, y -> y.at(row, 0));
            found("5 NOTHING: torn already", x, NOTHING, y -> y.tear(row));
            due("5 it can be made again", x.row(r, 1), 1);
            dueTold("5 with ints 0", x, x.at(r, 0), 0);
        }
        SubgroupWriter x = fresh();
        x.row(0, 0);
        due("5 a ROW of 0 ints too", x.tear(0), 1);
        found("5 NOTHING: missing at first", fresh(), NOTHING, y -> y.tear(0));
        for (int r : new int[] {MIN, -1, 6, MAX}) refused("5 BAD: no ROW " + r, withRow(0, 1), BAD, y -> y.tear(r));
    }

    private static SubgroupWriter twoRows() {
        SubgroupWriter x = withRow(0, 1, 2, 3, 4, 5);
        fill(x, 5, 6, 7, 8);
        return x;
    }

    private static void copy() {
        SubgroupWriter x = twoRows();
        due("6 all places", x.copy(5, 0, 0, 0, 3), 1);
        dueRow("6 all places", x, 0, 6, 7, 8, 4, 5);
        due("6 up to both ends", x.copy(0, 3, 5, 1, 2), 1);
        dueRow("6 up to both ends", x, 5, 6, 4, 5);
        due("6 itself, all to where they are", x.copy(0, 0, 0, 0, 5), 1);
        dueRow("6 itself, all to where they are", x, 0, 6, 7, 8, 4, 5);
        due("6 itself, up, as if taken ahead", x.copy(0, 0, 0, 1, 4), 1);
        dueRow("6 itself, up, as if taken ahead", x, 0, 6, 6, 7, 8, 4);
        due("6 itself, down, as if taken ahead", x.copy(0, 1, 0, 0, 4), 1);
        dueRow("6 itself, down, as if taken ahead", x, 0, 6, 7, 8, 4, 4);
        SubgroupWriter y = twoRows();
        long before = y.digest();
        due("6 none", y.copy(0, 0, 5, 0, 0), 1);
        due("6 none, at the end", y.copy(0, 5, 5, 3, 0), 1);
        due("6 none changes nothing", y.digest(), before);
        y.row(1, 0);
        due("6 none of a ROW of none", y.copy(1, 0, 1, 0, 0), 1);
        SubgroupWriter z = fresh();
        fill(z, 2, times(40, 3));
        z.row(3, 40);
        due("6 all 40", z.copy(2, 0, 3, 0, 40), 1);
        dueRow("6 all 40", z, 3, times(40, 3));
    }

    private static void copyBeyond() {
        found("6 BEYOND: one too many", twoRows(), BEYOND, y -> y.copy(0, 3, 5, 0, 3));
        found("6 BEYOND: one too many there", twoRows(), BEYOND, y -> y.copy(0, 0, 5, 1, 3));
        found("6 BEYOND: more than the ROW", twoRows(), BEYOND, y -> y.copy(5, 0, 0, 0, 4));
        found("6 BEYOND: more than the other ROW", twoRows(), BEYOND, y -> y.copy(0, 0, 5, 0, 4));
        found("6 BEYOND: one of a ROW of none", withRow(0), BEYOND, y -> y.copy(0, 0, 0, 0, 1));
        for (int i : new int[] {MIN, -1, 6, MAX}) {
            found("6 BEYOND: from " + i, twoRows(), BEYOND, y -> y.copy(0, i, 5, 0, 1));
            found("6 BEYOND: to " + i, twoRows(), BEYOND, y -> y.copy(5, 0, 0, i, 1));
        }
        found("6 BEYOND: the place behind the last", twoRows(), BEYOND, y -> y.copy(0, 5, 5, 0, 1));
        found("6 BEYOND: around", twoRows(), BEYOND, y -> y.copy(0, 1, 5, 0, MAX));
        found("6 BEYOND: around there", twoRows(), BEYOND, y -> y.copy(0, 0, 5, MAX, 2));
        found("6 BEYOND: around both", twoRows(), BEYOND, y -> y.copy(0, MAX, 5, MAX, MAX));
        found("6 SIZE: n below 0", twoRows(), SIZE, y -> y.copy(0, 0, 5, 0, -1));
        found("6 SIZE: n far below 0", twoRows(), SIZE, y -> y.copy(0, 0, 5, 0, MIN));
        found("6 SIZE ahead of NOTHING", twoRows(), SIZE, y -> y.copy(1, 0, 2, 0, -1));
        found("6 SIZE ahead of BEYOND", twoRows(), SIZE, y -> y.copy(0, 99, 5, 99, -1));
        found("6 NOTHING: the one", twoRows(), NOTHING, y -> y.copy(1, 0, 5, 0, 1));
        found("6 NOTHING: the other", twoRows(), NOTHING, y -> y.copy(0, 0, 1, 0, 1));
        found("6 NOTHING: none of them", twoRows(), NOTHING, y -> y.copy(0, 0, 1, 0, 0));
        found("6 NOTHING ahead of BEYOND", twoRows(), NOTHING, y -> y.copy(0, 99, 1, 0, 1));
        for (int r : new int[] {MIN, -1, 6, MAX}) {
            refused("6 BAD: no ROW " + r, twoRows(), BAD, y -> y.copy(r, 0, 5, 0, 1));
            refused("6 BAD: no other ROW " + r, twoRows(), BAD, y -> y.copy(0, 0, r, 0, 1));
            refused("6 BAD ahead of SIZE", twoRows(), BAD, y -> y.copy(0, 0, r, 0, -1));
            refused("6 BAD ahead of NOTHING", twoRows(), BAD, y -> y.copy(1, 0, r, 0, 1));
        }
    }

    private static void dueMean(String sentence, int mean, int... values) {
        SubgroupWriter x = withRow(3, values);
        dueTold(sentence, x, x.mean(3), mean);
    }

    private static void mean() {
        dueMean("7 of one", -9, -9);
        dueMean("7 cut", 1, 1, 2);
        dueMean("7 cut, below 0", -1, -1, -2);
        dueMean("7 cut to 0", 0, 0, 1, 0);
        dueMean("7 cut to 0, below 0", 0, 0, -1, 0);
        dueMean("7 of 40 of the greatest", MAX, times(40, MAX));
        dueMean("7 of 40 of the least", MIN, times(40, MIN));
        dueMean("7 of the greatest and the least", 0, MAX, MIN);
        found("7 NOUGHT: a ROW of none", withRow(3), NOUGHT, y -> y.mean(3));
        found("7 NOTHING: a ROW that is missing", withRow(3, 1), NOTHING, y -> y.mean(2));
        for (int r : new int[] {MIN, -1, 6, MAX}) refused("7 BAD: no ROW " + r, withRow(3, 1), BAD, y -> y.mean(r));
    }

    private static void duePut(int v, int then) {
        SubgroupWriter x = fresh();
        x.text(3, 2);
        due("9 what it was: a blank", x.put(3, 1, v), 1032);
        due("9 cut to a byte: " + v, x.put(3, 1, 0), then);
        due("9 byte i alone", x.put(3, 0, 0), 1032);
    }

    private static void put() {
        duePut(0, 1000);
        duePut(127, 1127);
        duePut(128, 872);
        duePut(255, 999);
        duePut(256, 1000);
        duePut(256 + 97, 1097);
        duePut(-1, 999);
        duePut(-128, 872);
        duePut(-129, 1127);
        duePut(MAX, 999);
        duePut(MIN, 1000);
        for (int i : new int[] {MIN, -1, 3, 60, MAX}) {
            found("9 BEYOND: place " + i, of("a10"), BEYOND, y -> y.put(0, i, 65));
            found("9 NOTHING ahead of BEYOND", of("a10"), NOTHING, y -> y.put(1, i, 65));
        }
        for (int t : new int[] {MIN, -1, 4, MAX}) {
            refused("9 BAD: no TEXT " + t, of("a10"), BAD, y -> y.put(t, 0, 65));
            refused("9 BAD ahead of BEYOND", of("a10"), BAD, y -> y.put(t, -1, 65));
        }
        found("9 NOTHING: a TEXT that is missing", of("a10"), NOTHING, y -> y.put(3, 0, 65));
    }

    /** A FAULT at a place: fault() tells it, group() refuses; NONE: group() takes the TEXT. */
    private static void fault(String sentence, String text, int place) {
        SubgroupWriter x = of("a120=aaa");
        // read twice, so that nothing can be left that was not read before
        x.group(0);
        type(x, 2, text);
        due(sentence + " '" + text + "'", x.fault(2), place);
        if (place == NONE) {
            due(sentence + " '" + text + "', a group", x.group(2) >= 2 ? 1 : 0, 1);
        } else {
            refused(sentence + " '" + text + "', no group", x, STATE, y -> y.group(2));
        }
    }

    private static void blanksInTexts() {
        fault("blanks ahead as many as wanted", blanks(57) + "a10", NONE);
        fault("blanks behind as many as wanted", "a10" + blanks(57), NONE);
        fault("blanks between as many as wanted", "a10" + blanks(20) + "b01" + blanks(20) + "=bb" + blanks(8) + "=aa", NONE);
        fault("no blanks", "a10b01c10=aa=bb=cc", NONE);
        fault("one blank each", " a10 b01 c10 =aa =bb =cc ", NONE);
        fault("blanks: none behind a", "a 10", 1);
        fault("blanks: none behind a single figure", "a1 0", 2);
        fault("blanks: none among figures of a", "a12 0", 2);
        fault("blanks: none among figures of a", "a10 2", 4);
        fault("blanks: none behind b", "a10b 01", 4);
        fault("blanks: none among figures of b", "a10b0 1", 5);
        fault("blanks: none behind =", "a10= aa", 4);
        fault("blanks: none among LETTERS", "a10=aa a", 7);
        fault("blanks: none among LETTERS", "a10=a a", 3);
        for (int sign : new int[] {0, 9, 10, 13, 31, 33, 127, 128, 160, 255}) {
            fault("blanks are 32 alone, not " + sign, (char) sign + "a10", 0);
            fault("blanks are 32 alone, not " + sign, "a10" + (char) sign, 3);
            fault("blanks are 32 alone, not " + sign, "a10b01" + (char) sign + "=bb", 6);
        }
    }

    private static void dueGroup(String sentence, String text, int points, int generators, int relators) {
        SubgroupWriter x = fresh();
        type(x, 1, text);
        due(sentence + " " + text + ", no fault", x.fault(1), NONE);
        due(sentence + " " + text + ", POINTS", x.group(1), points);
        due(sentence + " " + text + ", POINTS", x.count(0), points);
        due(sentence + " " + text + ", GENERATORS", x.count(1), generators);
        due(sentence + " " + text + ", RELATORS", x.count(2), relators);
        due(sentence + " " + text + ", RULES", x.count(6), points * relators);
        due(sentence + " " + text + ", SIGNS", x.count(4), points * generators - points + 1);
    }

    private static void generatorsInTexts() {
        dueGroup("GENERATORS (1 to 3): 1", "a10", 2, 1, 0);
        dueGroup("GENERATORS (1 to 3): 2", "a10b01", 2, 2, 0);
        dueGroup("GENERATORS (1 to 3): 3", "a10b01c10", 2, 3, 0);
        fault("GENERATORS (1 to 3): none", "", 0);
        fault("GENERATORS (1 to 3): none", blanks(60), 60);
        fault("GENERATORS (1 to 3): none", " =aa", 1);
        fault("GENERATORS (1 to 3): none", "10", 0);
        fault("GENERATORS (1 to 3): a fourth", "a10b01c10d01", 9);
        fault("GENERATORS (1 to 3): a fourth", "a10b01c10a01", 9);
        fault("GENERATORS (1 to 3): a fourth", "a10b01c10c01", 9);
        fault("first a", "b10", 0);
        fault("first a", "b10a01", 0);
        fault("first a", "c10", 0);
        fault("first a", "A10", 0);
        fault("then b", "a10a10", 3);
        fault("then b", "a10 c10", 4);
        fault("then b", "a10B10", 3);
        fault("then c", "a10b10a10", 6);
        fault("then c", "a10b10b10", 6);
        fault("then c", "a10b10C10", 6);
        fault("then RELATORS: no GENERATOR behind them", "a10=aa b01", 7);
        fault("then RELATORS: no GENERATOR behind them", "a10=aa 01", 7);
    }

    private static void pointsInTexts() {
        dueGroup("POINTS: 2 at least", "a10", 2, 1, 0);
        dueGroup("POINTS: 3", "a120", 3, 1, 0);
        dueGroup("POINTS: 4", "a1230", 4, 1, 0);
        dueGroup("POINTS: 5 at most", "a12340", 5, 1, 0);
        dueGroup("the most of all", "a12340b10234c01234=aAaAaAaA=bbbbbbbb=cccccccc", 5, 3, 3);
        for (String behind : new String[] {"", " ", "b", "=", "a", ":", "/", "x", "A", "-"}) {
            fault("the one behind a", "a" + behind, 1);
            if (!behind.isEmpty()) fault("the one behind a", "a" + behind + "10", 1);
            for (int figure = 0; figure <= 9; figure++) {
                fault("the one behind a and a single figure, whatever that is", "a" + figure + behind, 2);
            }
        }
        fault("5 at most: one too many", "a012340", 6);
        fault("5 at most: one too many", "a123400", 6);
        fault("5 at most: one too many", "a123405", 6);
        fault("5 at most: one too many", "a123409", 6);
        fault("5 at most: many too many", "a1234012340", 6);
        fault("5 at most: an earlier FAULT among too many", "a123450", 5);
        fault("5 at most: an earlier FAULT among too many", "a500000", 1);
        fault("5 at most: an earlier FAULT among too many", "a112345", 2);
    }

    private static void figuresInTexts() {
        fault("a figure not below how many POINTS there are", "a20", 1);
        fault("a figure not below how many POINTS there are", "a12", 2);
        fault("a figure not below how many POINTS there are", "a99", 1);
        fault("a figure not below how many POINTS there are", "a320", 1);
        fault("a figure not below how many POINTS there are", "a130", 2);
        fault("a figure not below how many POINTS there are", "a123", 3);
        fault("a figure not below how many POINTS there are", "a1234", 4);
        fault("a figure not below how many POINTS there are", "a12345", 5);
        fault("a figure not below how many POINTS there are", "a10b20", 4);
        fault("a figure not below how many POINTS there are", "a10b02", 5);
        fault("a figure not below how many POINTS there are", "a120b102c013", 11);
        fault("a figure told already for this GENERATOR", "a00", 2);
        fault("a figure told already for this GENERATOR", "a121", 3);
        fault("a figure told already for this GENERATOR", "a12344", 5);
        fault("a figure told already for this GENERATOR", "a10b11", 5);
        fault("a figure told already for this GENERATOR", "a120b102c010", 11);
        fault("told for another GENERATOR is fine", "a10b10c10", NONE);
        fault("one too many", "a10b010", 6);
        fault("one too many", "a120b1023", 8);
        fault("one too many", "a10b01c100", 9);
        fault("one too many", "a10b01c105=bb", 9);
        fault("no figure where one is due", "a10bb01", 4);
        fault("no figure where one is due", "a10b=", 4);
        fault("no figure where one is due", "a10b0b", 5);
        fault("no figure where one is due", "a120b10=bb", 7);
        fault("no figure where one is due: 47", "a10b/1", 4);
        fault("no figure where one is due: 58", "a10b:1", 4);
        fault("no figure where one is due: below 0", "a10b" + (char) 176 + "1", 4);
        fault("another one than said", "a10x", 3);
        fault("another one than said", "a10 -", 4);
        fault("another one than said", "a10 b01 5", 8);
        SubgroupWriter x = of("a13042");
        int[] to = {1, 3, 0, 4, 2};
        int[] from = {2, 0, 4, 1, 3};
        for (int k = 0; k < 5; k++) {
            due("figure k is the POINT to which it takes POINT k", x.goes(k, 1), to[k]);
            due("A: the other way", x.goes(k, -1), from[k]);
        }
    }

    private static void relatorsInTexts() {
        dueGroup("RELATORS: none", "a10", 2, 1, 0);
        dueGroup("RELATORS: 1", "a10=aa", 2, 1, 1);
        dueGroup("RELATORS: 2", "a10=aa=AA", 2, 1, 2);
        dueGroup("RELATORS: 3 at most", "a10=aa=AA=aA", 2, 1, 3);
        fault("a fourth =", "a10=aa=aa=aa=aa", 12);
        fault("a fourth =", "a10=aa=aa=aa   =aa", 15);
        fault("a fourth =, of no LETTERS", "a10=aa=aa=aa=", 12);
        fault("a fourth =, of a RELATOR that moves POINTS", "a10=aa=aa=aa=a", 12);
        fault("1 LETTER at least", "a10=", 4);
        fault("1 LETTER at least", "a10=aa=", 7);
        fault("1 LETTER at least", "a10==aa", 4);
        fault("1 LETTER at least", "a10= ", 4);
        dueGroup("1 LETTER", "a10b01=b", 2, 2, 1);
        dueGroup("8 LETTERS at most", "a10=aaaaaaaa", 2, 1, 1);
        fault("a ninth one", "a10=aaaaaaaaa", 12);
        fault("a ninth one", "a10=aaaaaaaaA", 12);
        fault("a ninth one, of no GENERATOR", "a10=aaaaaaaab", 12);
        fault("a ninth one, of no GENERATOR", "a10=aaaaaaaaC", 12);
        fault("a ninth one, behind eight that move POINTS", "a120=aaaaaaaaa", 13);
        fault("a ninth one, of a later RELATOR", "a10=aa=AAAAAAAAA", 15);
        fault("eight, and no LETTER", "a10=aaaaaaaad", 12);
        fault("eight, and a blank, and one more", "a10=aaaaaaaa a", 13);
    }

    private static void lettersInTexts() {
        for (String sign : new String[] {"0", "1", "d", "D", "@", "`", "=", "-", "z"}) {
            fault("no LETTER where one is due", "a10b01c01=" + sign, 10);
            fault("a RELATOR ends where none of a, b, c, A, B, C stands", "a10b01c01=b" + sign, sign.equals("=") ? 12 : 11);
        }
        for (String sign : new String[] {"b", "B", "c", "C"}) {
            fault("a LETTER of no GENERATOR", "a10=" + sign, 4);
            fault("a LETTER of no GENERATOR", "a10=a" + sign, 5);
            fault("a LETTER of no GENERATOR", "a10=aa=aa" + sign, 9);
        }
        fault("a LETTER of no GENERATOR", "a10b01=c", 7);
        fault("a LETTER of no GENERATOR", "a10b01=bbC", 9);
        fault("LETTERS of all GENERATORS", "a10b01c01=abcABC", NONE);
        fault("LETTERS of all GENERATORS", "a10b01=abAB", NONE);
    }

    private static void relatorsThatMove() {
        fault("a RELATOR that moves POINTS: the place of its =", "a10=a", 3);
        fault("a RELATOR that moves POINTS: the place of its =", "a10   =aaa", 6);
        fault("a RELATOR that moves POINTS: the second", "a10=aa=a", 6);
        fault("a RELATOR that moves POINTS: the third", "a10=aa=aa =a ", 10);
        fault("a RELATOR that moves POINTS, ahead of a later FAULT", "a10=a=b", 3);
        fault("a RELATOR that moves POINTS, ahead of what ends it", "a10=a5", 3);
        fault("a RELATOR that moves POINTS, ahead of what ends it", "a10=a a", 3);
        for (String sign : new String[] {"0", "d", "D", "@", "`", "=", "-", "z"}) {
            fault("a RELATOR that moves POINTS, ahead of what ends it", "a10b01c01=a" + sign, 9);
            fault("a RELATOR of eight that moves POINTS, ahead of what ends it", "a120b012=aaaaaaaa" + sign, 8);
        }
        fault("a LETTER of no GENERATOR ends no RELATOR", "a10=ab", 5);
        fault("each POINT: 0 stays alone", "a021b120=a", 8);
        fault("each POINT: the last stays alone", "a102b120=a", 8);
        fault("each POINT: the last two are moved", "a01243b12340=a", 12);
        fault("the other way: a and A", "a120=aA", NONE);
        fault("the other way: a is not A", "a120=aa", 4);
        fault("the other way: as long as three", "a120=AAA", NONE);
        fault("one behind the other, not the other first", "a120b102=abAB", 8);
        fault("one behind the other", "a120b102=abab", NONE);
    }

    private static void endsOfTexts() {
        for (int n = 0; n <= 3; n++) fault("its end comes too early", blanks(n), n);
        fault("its end comes too early", "a", 1);
        fault("its end comes too early", "  a", 3);
        fault("its end comes too early", "a1", 2);
        fault("its end comes too early", "a10b", 4);
        fault("its end comes too early", "a10b0", 5);
        fault("its end comes too early", "a12340b1234", 11);
        fault("its end comes too early", "a10b01c1", 8);
        fault("its end comes too early", "a10=", 4);
        fault("its end comes too early", "a10=aa=", 7);
        fault("by no LETTERS to some POINT", "a01", 3);
        fault("by no LETTERS to some POINT: the TEXT's size, blanks too", "a01   ", 6);
        fault("by no LETTERS to some POINT", "a102", 4);
        fault("by no LETTERS to some POINT", "a021b012", 8);
        fault("by no LETTERS to some POINT", "a1032b1032c1032", 15);
        fault("by no LETTERS to some POINT, behind RELATORS", "a1032=aa=AA", 11);
        fault("by no LETTERS to some POINT, a RELATOR ahead", "a1032=aa=a", 8);
        fault("by no LETTERS to some POINT, another FAULT ahead", "a1032=aa x", 9);
        fault("by one behind the other to all POINTS", "a10234b02134c01342", NONE);
        fault("by one behind the other to all POINTS", "a10234b01243c02134", 18);
        fault("by one behind the other to all POINTS", "a10243b02134c01324", NONE);
        fault("by one alone to all POINTS", "a01234b01234c40123", NONE);
    }

    private static void faultAndGroup() {
        for (int t : new int[] {MIN, -1, 4, MAX}) {
            refused("10 BAD: no TEXT " + t, of(THREE), BAD, y -> y.fault(t));
            refused("11 BAD: no TEXT " + t, of(THREE), BAD, y -> y.group(t));
        }
        for (int t = 1; t <= 3; t++) {
            int text = t;
            found("10 NOTHING: a TEXT that is missing", of(THREE), NOTHING, y -> y.fault(text));
            found("11 NOTHING: a TEXT that is missing", of(THREE), NOTHING, y -> y.group(text));
        }
        SubgroupWriter x = of(THREE);
        type(x, 3, "a10=");
        long[] before = stateOf(x);
        due("10 fault() answers", x.fault(3), 4);
        due("10 NONE: there is none", x.fault(0), NONE);
        same("10 fault() changes nothing", stateOf(x), before);
        due("10 fault() makes no GROUP", x.count(0), 3);
        refused("11 STATE: a FAULT", x, STATE, y -> y.group(3));
        SubgroupWriter y = fresh();
        type(y, 0, "a10");
        y.fault(0);
        due("10 fault() makes no GROUP", y.count(0), 0);
        y.put(0, 2, 'x');
        refused("11 STATE: a FAULT, no GROUP as before", y, STATE, z -> z.group(0));
        due("11 STATE: no GROUP", y.count(0), 0);
    }

    private static void groupAnew() {
        SubgroupWriter x = of(THREE);
        x.order(2);
        x.turn(5);
        for (int k = 0; k <= 2; k++) x.keep(k);
        refused("11 a refused group() leaves kept BOOKS", x, BAD, y -> y.group(4));
        found("11 a refused group() leaves kept BOOKS", x, NOTHING, y -> y.group(3));
        due("11 kept BOOKS are there", x.count(13), 3);
        due("11 the same TEXT again", x.group(0), 3);
        due("11 ORDER 0", x.count(3), 0);
        due("11 no DEEDS", x.count(8), 0);
        due("11 kept BOOKS go", x.count(13), 0);
        for (int k = 0; k <= 2; k++) {
            int place = k;
            found("11 kept BOOKS go", x, NOTHING, y -> y.on(place));
        }
        SubgroupWriter z = of(THREE);
        due("11 a GROUP anew is as one at first", x.digest(), z.digest());
        type(x, 1, "a10");
        due("11 fewer POINTS", x.group(1), 2);
        refused("11 of fewer POINTS", x, BAD, y -> y.goes(2, 1));
        refused("11 of fewer GENERATORS", x, BAD, y -> y.goes(0, 2));
        refused("11 of no RULES", x, BAD, y -> y.turn(0));
        due("11 of fewer SIGNS", x.count(4), 1);
        due("11 of fewer SIGNS that are LEFT", x.count(5), 1);
        x.text(1, 0);
        due("11 a GROUP stays when its TEXT is made anew", x.count(0), 2);
        due("11 a GROUP stays when its TEXT is made anew", x.goes(0, 1), 1);
    }

    private static void goes() {
        SubgroupWriter x = of(FIVE);
        int[] a = {1, 0, 2, 3, 4};
        int[] c = {0, 1, 3, 4, 2};
        int[] back = {0, 1, 4, 2, 3};
        for (int point = 0; point <= 4; point++) {
            due("12 a LETTER takes a POINT to another one, or to itself", x.goes(point, 1), a[point]);
            due("12 c, the last LETTER there is", x.goes(point, 3), c[point]);
            due("12 C, the other way", x.goes(point, -3), back[point]);
        }
        for (int letter : new int[] {MIN, -4, 0, 4, MAX}) refused("12 BAD: no LETTER", of(FIVE), BAD, y -> y.goes(0, letter));
        for (int letter : new int[] {-3, 0, 3}) refused("12 BAD: of the GENERATORS there are", of(THREE), BAD, y -> y.goes(0, letter));
        for (int letter : new int[] {-2, 0, 2}) refused("12 BAD: of the GENERATORS there are", of("a10"), BAD, y -> y.goes(0, letter));
        for (int point : new int[] {MIN, -1, 5, MAX}) refused("12 BAD: no POINT", of(FIVE), BAD, y -> y.goes(point, 1));
        refused("12 BAD: no POINT 2 of two", of("a10"), BAD, y -> y.goes(2, 1));
    }

    private static void duePoint(String sentence, SubgroupWriter x, int point, int... told) {
        for (int what = 0; what <= 3; what++) {
            dueTold(sentence + " POINT " + point + ", " + what, x, x.reached(point, what), told[what]);
        }
    }

    private static void treesOfThreeOrders() {
        SubgroupWriter x = of(FIVE);
        duePoint("BROAD", x, 0, NONE, NONE, 0, 0);
        duePoint("BROAD", x, 1, 0, 1, 1, 1);
        duePoint("BROAD", x, 2, 1, 2, 2, 2);
        duePoint("BROAD", x, 3, 2, 3, 3, 3);
        duePoint("BROAD", x, 4, 2, -3, 3, 4);
        x.order(1);
        duePoint("LATE", x, 0, NONE, NONE, 0, 0);
        duePoint("LATE", x, 1, 0, -1, 1, 1);
        duePoint("LATE", x, 2, 1, -2, 2, 2);
        duePoint("LATE", x, 3, 2, 3, 3, 4);
        duePoint("LATE", x, 4, 2, -3, 3, 3);
        x.order(2);
        duePoint("DEEP", x, 0, NONE, NONE, 0, 0);
        duePoint("DEEP", x, 1, 0, 1, 1, 1);
        duePoint("DEEP", x, 2, 1, 2, 2, 2);
        duePoint("DEEP", x, 3, 2, 3, 3, 3);
        duePoint("DEEP", x, 4, 3, 3, 4, 4);
        SubgroupWriter y = of("a120");
        duePoint("BROAD by a, A", y, 1, 0, 1, 1, 1);
        duePoint("BROAD by a, A", y, 2, 0, -1, 1, 2);
        y.order(1);
        duePoint("LATE by A, a", y, 1, 0, 1, 1, 2);
        duePoint("LATE by A, a", y, 2, 0, -1, 1, 1);
        y.order(2);
        duePoint("DEEP by a", y, 2, 1, 1, 2, 2);
    }

    private static void deepGoesBack() {
        // 2 is a dead end behind 1, which is one behind 0: DEEP goes back twice
        SubgroupWriter x = of("a1023b0213c3120");
        duePoint("BROAD", x, 2, 1, 2, 2, 3);
        duePoint("BROAD", x, 3, 0, 3, 1, 2);
        x.order(1);
        duePoint("LATE", x, 3, 0, -3, 1, 1);
        duePoint("LATE", x, 1, 0, -1, 1, 2);
        duePoint("LATE", x, 2, 1, -2, 2, 3);
        x.order(2);
        duePoint("DEEP: if there is none, from the one from which it was reached", x, 1, 0, 1, 1, 1);
        duePoint("DEEP: if there is none, from the one from which it was reached", x, 2, 1, 2, 2, 2);
        duePoint("DEEP: if there is none, from the one from which it was reached", x, 3, 0, 3, 1, 3);
        // a chain of four, then back to POINT 0 for the last: 0 - 1 - 2 - 3 by a, b, a; 0 - 4 by c
        SubgroupWriter y = of("a10324b02134c41230");
        y.order(2);
        duePoint("DEEP: back three times", y, 3, 2, 1, 3, 3);
        duePoint("DEEP: back three times", y, 4, 0, 3, 1, 4);
        // two dead ends: 0 - 1 - 4 by a, c, then 0 - 2 by b, then 0 - 3 by c
        SubgroupWriter z = of("a10234b21034c34201");
        z.order(2);
        duePoint("DEEP: back again and again", z, 4, 1, 3, 2, 2);
        duePoint("DEEP: back again and again", z, 2, 0, 2, 1, 3);
        duePoint("DEEP: back again and again", z, 3, 0, 3, 1, 4);
        SubgroupWriter w = of("a210b120");
        w.order(2);
        duePoint("DEEP by the first of a, A, b, B, c, C: B", w, 2, 0, 1, 1, 1);
        duePoint("DEEP by the first of a, A, b, B, c, C: B", w, 1, 2, -2, 2, 2);
        SubgroupWriter v = of("a102b012c201");
        v.order(2);
        duePoint("DEEP by the first of a, A, b, B, c, C: C", v, 1, 0, 1, 1, 1);
        duePoint("DEEP by the first of a, A, b, B, c, C: C", v, 2, 1, -3, 2, 2);
    }

    private static void reachedAndWay() {
        for (int what : new int[] {MIN, -1, 4, MAX}) refused("13 BAD: what " + what, of(FIVE), BAD, y -> y.reached(0, what));
        for (int point : new int[] {MIN, -1, 5, MAX}) {
            refused("13 BAD: no POINT", of(FIVE), BAD, y -> y.reached(point, 0));
            refused("14 BAD: no POINT", of(FIVE), BAD, y -> y.way(point, 0));
        }
        refused("13 BAD: no POINT 2 of two", of("a10"), BAD, y -> y.reached(2, 0));
        for (int r : new int[] {MIN, -1, 6, MAX}) refused("14 BAD: no ROW", of(FIVE), BAD, y -> y.way(0, r));
        SubgroupWriter x = with(FIVE, 9, 9, 9, 9, 9);
        due("14 the WAY of the last POINT", x.way(4, 0), 3);
        dueRow("14 the WAY comes to a ROW anew", x, 0, 1, 2, -3);
        due("14 the WAY of POINT 0: none", x.way(0, 0), 0);
        due("14 the ROW is there, of none", x.count(11), 1);
        dueRow("14 the ROW is there, of none", x, 0);
        due("14 a ROW that was missing", x.way(1, 5), 1);
        dueRow("14 a ROW that was missing", x, 5, 1);
        x.order(2);
        due("14 the longest WAY", x.way(4, 5), 4);
        dueRow("14 the longest WAY", x, 5, 1, 2, 3, 3);
        x.order(1);
        due("14 a WAY of LATE", x.way(3, 5), 3);
        dueRow("14 a WAY of LATE", x, 5, -1, -2, 3);
    }

    private static void dueEdge(String sentence, SubgroupWriter x, int e, int... told) {
        for (int what = 0; what <= 4; what++) {
            dueTold(sentence + " EDGE " + e + ", " + what, x, x.edge(e, what), told[what]);
        }
    }

    private static void edges() {
        int[][] due = {
            {1, 0, 1, 0, 0}, {3, 0, 0, 1, 1}, {3, 0, 0, 2, 1},
            {4, 1, 0, 3, 1}, {1, 1, 2, 0, 0}, {3, 1, 1, 4, 1},
            {3, 2, 2, 5, 1}, {4, 2, 1, 6, 1}, {1, 2, 3, 0, 0},
            {3, 3, 3, 7, 1}, {3, 3, 3, 8, 1}, {2, 3, 4, 9, 1},
            {3, 4, 4, 10, 1}, {3, 4, 4, 11, 1}, {1, 4, 2, 0, 0}};
        SubgroupWriter x = of(FIVE);
        for (int e = 0; e < 15; e++) dueEdge("15", x, e, due[e]);
        due("SIGNS are numbered as their EDGES come", x.count(4), 11);
        SubgroupWriter deep = of(FIVE);
        deep.order(2);
        dueEdge("15 DEEP", deep, 11, 1, 3, 4, 0, 0);
        dueEdge("15 DEEP", deep, 14, 2, 4, 2, 11, 1);
        SubgroupWriter y = of(THREE);
        y.solve(0, 2);
        dueEdge("15 whether that is LEFT: SOLVED", y, 2, 2, 1, 2, 2, 0);
        dueEdge("15 whether that is LEFT: another one", y, 3, 4, 1, 0, 3, 1);
        y.order(1);
        dueEdge("15 whether that is LEFT: ORDERED", y, 1, 4, 0, 1, 2, 1);
        for (int e : new int[] {MIN, -1, 15, MAX}) {
            refused("15 BAD: no EDGE", of(FIVE), BAD, z -> z.edge(e, 0));
            refused("16 BAD: no EDGE", of(FIVE), BAD, z -> z.mark(e, 1));
        }
        refused("15 BAD: no EDGE 2 of two", of("a10"), BAD, z -> z.edge(2, 0));
        refused("16 BAD: no EDGE 2 of two", of("a10"), BAD, z -> z.mark(2, 1));
        for (int what : new int[] {MIN, -1, 5, MAX}) refused("15 BAD: what", of(FIVE), BAD, z -> z.edge(0, what));
    }

    private static void kinds() {
        SubgroupWriter x = of("a10b10c10");
        for (int e = 1; e < 6; e++) dueEdge("TWINS: all but the BRANCH", x, e, 4, e / 3, 1 - e / 3, e, 1);
        due("10 TWINS", x.count(10), 5);
        due("9 LOOPS: none", x.count(9), 0);
        SubgroupWriter y = of("a12340b01234c01234");
        due("9 LOOPS", y.count(9), 10);
        due("10 TWINS: none", y.count(10), 0);
        dueEdge("a SIGN that is no LOOP, no TWIN", y, 6, 2, 2, 3, 5, 1);
        SubgroupWriter z = of("a10");
        dueEdge("BRANCH", z, 0, 1, 0, 1, 0, 0);
        dueEdge("TWIN", z, 1, 4, 1, 0, 1, 1);
        z.order(1);
        dueEdge("LATE: by A", z, 0, 4, 0, 1, 1, 1);
        dueEdge("LATE: by A", z, 1, 1, 1, 0, 0, 0);
        due("TWIN of LATE", z.count(10), 1);
    }

    private static void mark() {
        SubgroupWriter x = of(FIVE);
        dueTold("16 a BRANCH: the POINT that was reached later, at its end", x, x.mark(8, 1), 3);
        dueTold("16 a BRANCH: the POINT that was reached later, at its start", x, x.mark(14, 1), 4);
        dueTold("16 a SIGN: both WAYS and it", x, x.mark(11, 2), 7);
        dueTold("16 a LOOP is a SIGN, too", x, x.mark(1, 2), 1);
        dueTold("16 a LOOP is a SIGN, too", x, x.mark(13, 2), 7);
        dueTold("16 a TWIN is a SIGN, too", x, x.mark(7, 2), 4);
        dueTold("16 a LOOP: one at its POINT", x, x.mark(5, 3), 1);
        dueTold("16 a LOOP: two at its POINT", x, x.mark(12, 3), 2);
        dueTold("16 a TWIN: the BRANCH", x, x.mark(3, 4), 0);
        dueTold("16 a TWIN: the BRANCH", x, x.mark(7, 4), 4);
        SubgroupWriter late = of("a10b10c10");
        late.order(1);
        dueTold("16 a TWIN: the BRANCH behind it", late, late.mark(0, 4), 5);
        SubgroupWriter y = of("a01b01c10");
        dueTold("16 LOOPS of its POINT alone", y, y.mark(3, 3), 2);
        for (int kind : new int[] {MIN, -1, 0, 5, MAX}) {
            refused("16 BAD: KIND " + kind, of(FIVE), BAD, z -> z.mark(0, kind));
            refused("16 BAD: KIND " + kind, of(FIVE), BAD, z -> z.mark(11, kind));
        }
        int[][] unlike = {{0, 2}, {0, 3}, {0, 4}, {11, 1}, {11, 3}, {11, 4}, {1, 1}, {1, 4}, {3, 1}, {3, 3}};
        for (int[] one : unlike) {
            found("16 UNLIKE: EDGE " + one[0] + " is no " + one[1], of(FIVE), UNLIKE, z -> z.mark(one[0], one[1]));
        }
    }

    // ---- 2 words

    private static void dueWritten(String sentence, int point, int to, int[] letters, int... signs) {
        SubgroupWriter x = with(FIVE, letters);
        due(sentence, x.written(point, 0, 1), signs.length);
        due(sentence + ", to which POINT", x.asked(), to);
        dueRow(sentence, x, 1, signs);
        dueRow(sentence + ", the LETTERS stay", x, 0, letters);
    }

    private static int[] row(int... values) {
        return values;
    }

    private static void written() {
        for (int point = 0; point <= 4; point++) dueWritten("17 no LETTERS: no SIGNS", point, point, row());
        dueWritten("17 a BRANCH: none", 0, 1, row(1));
        dueWritten("17 a BRANCH the other way: none", 1, 0, row(-1));
        dueWritten("17 a BRANCH to its start: none", 4, 2, row(3));
        dueWritten("17 a SIGN", 1, 0, row(1), 3);
        dueWritten("17 a SIGN, against it", 0, 1, row(-1), -3);
        dueWritten("17 a LOOP", 4, 4, row(2), 11);
        dueWritten("17 a LOOP, against it", 4, 4, row(-2), -11);
        dueWritten("17 from any POINT", 3, 4, row(3), 9);
        dueWritten("17 from any POINT, against it", 4, 3, row(-3), -9);
        dueWritten("17 REDUCED: both go", 0, 0, row(2, -2));
        dueWritten("17 REDUCED: both go, the one below 0 first", 0, 0, row(-2, 2));
        dueWritten("17 REDUCED: as long as", 0, 0, row(2, 3, 1, 2, -2, -1, -3, -2));
        dueWritten("17 REDUCED: over BRANCHES", 0, 0, row(3, 1, -1, -3, 2), 1);
        dueWritten("17 REDUCED: not two alike", 0, 0, row(2, 2), 1, 1);
        dueWritten("17 REDUCED: not beside it", 0, 0, row(2, 3, -2), 1, 2, -1);
        dueWritten("17 REDUCED: not of two POINTS", 0, 2, row(2, 1, -2), 1, -6);
        dueWritten("17 40 LETTERS, 40 SIGNS", 0, 0, times(40, -2), times(40, -1));
        dueWritten("17 40 LETTERS, 20 SIGNS", 0, 0, times(40, 1), times(20, 3));
        SubgroupWriter x = with(FIVE, 2, 1, 3);
        due("17 perhaps the same", x.written(0, 0, 0), 2);
        dueRow("17 perhaps the same", x, 0, 1, 4);
        fill(x, 1, 9, 9, 9, 9, 9);
        fill(x, 0, 1);
        due("17 to a ROW anew", x.written(0, 0, 1), 0);
        dueRow("17 to a ROW anew", x, 1);
        due("17 to a ROW that was missing", x.written(1, 0, 4), 1);
        dueRow("17 to a ROW that was missing", x, 4, 3);
        SubgroupWriter y = of(THREE);
        y.solve(0, 2);
        fill(y, 0, 1, 1, 1);
        due("17 SIGNS that are not LEFT, too", y.written(0, 0, 1), 1);
        dueRow("17 SIGNS that are not LEFT, too", y, 1, 2);
    }

    private static void writtenRefused() {
        for (int v : new int[] {MIN, -4, 0, 4, MAX}) {
            found("17 UNLIKE: the first", with(FIVE, v, 1, 1), UNLIKE, y -> y.written(0, 0, 1));
            found("17 UNLIKE: in the middle", with(FIVE, 1, v, 1), UNLIKE, y -> y.written(0, 0, 1));
            found("17 UNLIKE: the last", with(FIVE, 1, 1, v), UNLIKE, y -> y.written(0, 0, 0));
        }
        for (int v : new int[] {-2, 2}) {
            found("17 UNLIKE: of no GENERATOR there is", with("a10", 1, v), UNLIKE, y -> y.written(0, 0, 1));
        }
        for (int v : new int[] {-3, 3}) {
            found("17 UNLIKE: of no GENERATOR there is", with(THREE, 1, v), UNLIKE, y -> y.written(0, 0, 1));
        }
        found("17 NOTHING: a ROW that is missing", with(FIVE, 1), NOTHING, y -> y.written(0, 1, 0));
        found("17 NOTHING: both are missing", with(FIVE, 1), NOTHING, y -> y.written(0, 1, 1));
        for (int r : new int[] {MIN, -1, 6, MAX}) {
            refused("17 BAD: no ROW", with(FIVE, 1), BAD, y -> y.written(0, r, 1));
            refused("17 BAD: no other ROW", with(FIVE, 1), BAD, y -> y.written(0, 0, r));
            refused("17 BAD ahead of NOTHING", with(FIVE, 1), BAD, y -> y.written(0, 1, r));
            refused("17 BAD ahead of UNLIKE", with(FIVE, 0), BAD, y -> y.written(0, 0, r));
        }
        for (int point : new int[] {MIN, -1, 5, MAX}) {
            refused("17 BAD: no POINT", with(FIVE, 1), BAD, y -> y.written(point, 0, 1));
            refused("17 BAD ahead of NOTHING", with(FIVE, 1), BAD, y -> y.written(point, 1, 1));
            refused("17 BAD ahead of UNLIKE", with(FIVE, 0), BAD, y -> y.written(point, 0, 1));
        }
    }

    private static void dueSpelt(String sentence, int[] signs, int... letters) {
        SubgroupWriter x = with(FIVE, signs);
        due(sentence, x.spelt(0, 1), letters.length);
        dueRow(sentence, x, 1, letters);
        dueRow(sentence + ", the SIGNS stay", x, 0, signs);
    }

    /** SIGN 9 of FIVE n times: a, b, three times n c, B, A. */
    private static int[] spelling(int n) {
        int[] all = times(3 * n + 4, 3);
        all[0] = 1;
        all[1] = 2;
        all[3 * n + 2] = -2;
        all[3 * n + 3] = -1;
        return all;
    }

    private static void spelt() {
        dueSpelt("18 no SIGNS", row());
        dueSpelt("18 the first SIGN", row(1), 2);
        dueSpelt("18 the first SIGN, below 0", row(-1), -2);
        dueSpelt("18 the last SIGN", row(11), 1, 2, -3, 2, 3, -2, -1);
        dueSpelt("18 the last SIGN, below 0", row(-11), 1, 2, -3, -2, 3, -2, -1);
        dueSpelt("18 a TWIN", row(3), 1, 1);
        dueSpelt("18 a TWIN, below 0", row(-6), 1, -2, -2, -1);
        dueSpelt("18 between two WAYS", row(9), spelling(1));
        dueSpelt("18 between two WAYS, below 0", row(-9), 1, 2, -3, -3, -3, -2, -1);
        dueSpelt("18 REDUCED: all go", row(9, -9));
        dueSpelt("18 REDUCED: between SIGNS", row(9, 9), spelling(2));
        dueSpelt("18 40 LETTERS", times(12, 9), spelling(12));
        int[] there = times(14, 9);
        there[13] = -9;
        dueSpelt("18 40 LETTERS, REDUCED from more", there, spelling(12));
        int[] andBack = times(40, 9);
        for (int k = 20; k < 40; k++) andBack[k] = -9;
        dueSpelt("18 none, REDUCED from the most", andBack);
        dueSpelt("18 40 SIGNS, 40 LETTERS", times(40, 2), times(40, 3));
        SubgroupWriter x = with(FIVE, 3, 1);
        due("18 perhaps the same", x.spelt(0, 0), 3);
        dueRow("18 perhaps the same", x, 0, 1, 1, 2);
        fill(x, 0, 1);
        fill(x, 1, 9, 9, 9, 9);
        due("18 to a ROW anew", x.spelt(0, 1), 1);
        dueRow("18 to a ROW anew", x, 1, 2);
        due("18 to a ROW that was missing", x.spelt(0, 5), 1);
        dueRow("18 to a ROW that was missing", x, 5, 2);
        SubgroupWriter y = of(THREE);
        y.shorten();
        fill(y, 0, 1, -2);
        due("18 LEFT or not", y.spelt(0, 1), 5);
        dueRow("18 LEFT or not", y, 1, 2, -1, -1, -1, -1);
    }

    private static void speltRefused() {
        for (int v : new int[] {MIN, -12, 0, 12, MAX}) {
            found("18 UNLIKE: the first", with(FIVE, v, 1, 1), UNLIKE, y -> y.spelt(0, 1));
            found("18 UNLIKE: the last", with(FIVE, 1, 1, v), UNLIKE, y -> y.spelt(0, 0));
        }
        for (int v : new int[] {-2, 0, 2}) {
            found("18 UNLIKE: no SIGN 2 of one", with("a10", 1, v), UNLIKE, y -> y.spelt(0, 1));
        }
        found("18 NOTHING: a ROW that is missing", with(FIVE, 1), NOTHING, y -> y.spelt(1, 0));
        for (int r : new int[] {MIN, -1, 6, MAX}) {
            refused("18 BAD: no ROW", with(FIVE, 1), BAD, y -> y.spelt(r, 1));
            refused("18 BAD: no other ROW", with(FIVE, 1), BAD, y -> y.spelt(0, r));
            refused("18 BAD ahead of NOTHING", with(FIVE, 1), BAD, y -> y.spelt(1, r));
            refused("18 BAD ahead of UNLIKE", with(FIVE, 0), BAD, y -> y.spelt(0, r));
            refused("18 BAD ahead of SPENT", with(FIVE, times(13, 9)), BAD, y -> y.spelt(0, r));
        }
        refused("18 SPENT: more than 40", with(FIVE, times(13, 9)), SPENT, y -> y.spelt(0, 1));
        refused("18 SPENT: more than 40, to the same", with(FIVE, times(13, 9)), SPENT, y -> y.spelt(0, 0));
        refused("18 SPENT: the most", with(FIVE, times(40, -9)), SPENT, y -> y.spelt(0, 0));
        // SIGN 4 of THREE is A b a: n of them A, n times b, a
        refused("18 SPENT: 41", with(THREE, times(39, 4)), SPENT, y -> y.spelt(0, 0));
        SubgroupWriter x = with(THREE, times(38, 4));
        due("18 40 are not SPENT", x.spelt(0, 0), 40);
        int[] unlike = times(40, 9);
        unlike[39] = 0;
        found("18 UNLIKE ahead of SPENT", with(FIVE, unlike), UNLIKE, y -> y.spelt(0, 1));
    }

    private static void rules() {
        SubgroupWriter x = of("a12340b01234c01234=b=cc=bC");
        due("RULES of five POINTS, three RELATORS", x.count(6), 15);
        // SIGNS: 1, 2 at 0; 3, 4 at 1; 5 (a), 6, 7 at 2; 8, 9 at 3; 10, 11 at 4
        int[][] loops = {{1, 2}, {3, 4}, {6, 7}, {8, 9}, {10, 11}};
        for (int point = 0; point < 5; point++) {
            int b = loops[point][0];
            int c = loops[point][1];
            dueRule("RULES for POINT 0, 1, .., for each RELATOR", x, 3 * point, b);
            dueRule("RULES for POINT 0, 1, .., for each RELATOR", x, 3 * point + 1, c, c);
            dueRule("RULES for POINT 0, 1, .., for each RELATOR", x, 3 * point + 2, b, -c);
        }
        for (int i : new int[] {MIN, -1, 15, MAX}) refused("19 BAD: no RULE", x, BAD, y -> y.rule(i, 0));
        for (int k : new int[] {MIN, -1, 2, MAX}) refused("19 BAD: no SIGN k", x, BAD, y -> y.rule(14, k));
        refused("19 BAD: a RULE of no SIGNS", of(EMPTY), BAD, y -> y.rule(0, 0));
        refused("19 BAD: no RULES", of(FIVE), BAD, y -> y.rule(0, 0));
        SubgroupWriter y = of(EMPTY);
        dueRule("RULES are REDUCED", y, 0);
        dueRule("RULES are REDUCED", y, 1, 1, 1);
        dueRule("RULES of the last POINT", y, 3, 3, 3);
        SubgroupWriter z = of(LONG);
        z.join(0, 1);
        dueTold("19 SIGN 15 of 16", z, z.rule(0, 15) == 16 ? 1 : 0, 3);
        dueTold("19 SIGN 0 of 16", z, z.rule(0, 0) == 16 ? 1 : 0, 1);
        refused("19 BAD: no SIGN 16 of 16", z, BAD, w -> w.rule(0, 16));
        SubgroupWriter w = of(THREE);
        w.cut(3);
        refused("19 BAD: no RULE 8 behind a CUT", w, BAD, v -> v.rule(8, 0));
    }

    private static void dueOften(String sentence, SubgroupWriter x, int i, int sign, int often, int less) {
        due(sentence, x.often(i, sign), often);
        due(sentence + ", less those below 0", x.asked(), less);
    }

    private static void often() {
        SubgroupWriter x = of(STUCK);
        dueOften("20 not in it", x, 0, 2, 0, 0);
        dueOften("20 once", x, 3, 1, 1, 1);
        dueOften("20 either way", x, 3, 2, 2, 0);
        dueOften("20 five times", x, 3, 3, 5, 5);
        x.over(3);
        dueOften("20 five times below 0", x, 3, 3, 5, -5);
        SubgroupWriter y = of(LONG);
        y.join(0, 1);
        dueOften("20 in a RULE of 16", y, 0, 3, 8, 8);
        SubgroupWriter z = of(EMPTY);
        dueOften("20 a RULE of no SIGNS", z, 0, 1, 0, 0);
        for (int sign : new int[] {MIN, -1, 0, 5, 32, 33, 34, MAX}) {
            refused("20 BAD: no SIGN " + sign, of(THREE), BAD, w -> w.often(1, sign));
        }
        for (int i : new int[] {MIN, -1, 9, MAX}) refused("20 BAD: no RULE", of(THREE), BAD, w -> w.often(i, 1));
        SubgroupWriter w = of(THREE);
        w.solve(0, 2);
        refused("20 BAD: a SIGN that is not LEFT", w, BAD, v -> v.often(0, 2));
        dueOften("20 another SIGN is LEFT", w, 0, 3, 1, 1);
        w.order(1);
        dueOften("20 LEFT again, ORDERED", w, 1, 2, 1, 1);
        SubgroupWriter v = of(FIVE + "=abBA");
        dueOften("20 the last SIGN", v, 0, 11, 0, 0);
        refused("20 BAD: behind the last SIGN", v, BAD, u -> u.often(0, 12));
    }

    private static void alike() {
        // RULES: 1 2 3; 2 1 3; -1 -2 -3; 4 5 3; 5 4 3; -4 -5 -3
        SubgroupWriter x = of("a10b01c01=bcaa=cbaa=BCAA");
        due("21 the other way round alone: 0", x.alike(0, 1), 0);
        due("21 below 0 alone: 0", x.alike(0, 2), 0);
        due("21 TURNED OVER: 1", x.alike(1, 2), 1);
        due("21 TURNED OVER: 1", x.alike(2, 1), 1);
        due("21 other SIGNS: 0", x.alike(0, 3), 0);
        x.turn(0);
        x.join(3, 0);
        x.over(0);
        x.join(3, 0);
        dueRule("21", x, 3, 4, 5, 3);
        dueRule("21", x, 0, -1, -3, -2);
        due("21 still 0", x.alike(0, 1), 0);
        due("21 still 0", x.alike(0, 2), 0);
        SubgroupWriter y = of(THREE);
        due("21 of one SIGN", y.alike(0, 6), 1);
        due("21 of other sizes", y.alike(1, 0), 0);
        due("21 of other sizes", y.alike(0, 1), 0);
        due("21 put behind once", y.alike(1, 4), 1);
        due("21 put behind once", y.alike(5, 8), 1);
        due("21 put behind twice", y.alike(8, 5), 1);
        SubgroupWriter z = of(EMPTY);
        due("21 both of no SIGNS", z.alike(0, 2), 1);
        due("21 one of no SIGNS", z.alike(0, 1), 0);
        due("21 one of no SIGNS", z.alike(1, 0), 0);
        // RULES: 3 3; 1 1; 2 1 1 -2; 3 3: the third would come to the second, if it were REDUCED
        SubgroupWriter w = of("a10b01=abbA=bb");
        due("21 nothing REDUCED", w.alike(1, 2), 0);
        for (int i : new int[] {MIN, -1, 9, MAX}) {
            refused("21 BAD: no RULE", of(THREE), BAD, v -> v.alike(i, 0));
            refused("21 BAD: no other RULE", of(THREE), BAD, v -> v.alike(0, i));
        }
        for (int i = 0; i < 9; i++) {
            int rule = i;
            refused("21 BAD: not unlike", of(THREE), BAD, v -> v.alike(rule, rule));
        }
    }

    // ---- 3 deeds

    private static void order() {
        for (int from = 0; from <= 2; from++) {
            for (int to = 0; to <= 2; to++) {
                SubgroupWriter x = of(THREE);
                if (from != 0) x.order(from);
                int deeds = x.count(8);
                if (from == to) {
                    int same = to;
                    refused("22 STATE: it is so", x, STATE, y -> y.order(same));
                } else {
                    due("22 ORDERED: how many RULES", x.order(to), 9);
                    due("22 ORDERED", x.count(3), to);
                    due("22 a DEED", x.count(8), deeds + 1);
                }
            }
        }
        due("22 ORDERED without RULES", of(FIVE).order(1), 0);
        for (int o : new int[] {MIN, -1, 3, MAX}) {
            refused("22 BAD: no ORDER", of(THREE), BAD, y -> y.order(o));
            refused("22 BAD ahead of STATE: no GROUP", fresh(), BAD, y -> y.order(o));
            refused("22 BAD ahead of FULL", behind(20, THREE, 0), BAD, y -> y.order(o));
        }
        for (int o = 0; o <= 2; o++) {
            int order = o;
            refused("22 STATE: no GROUP", fresh(), STATE, y -> y.order(order));
        }
        refused("22 STATE ahead of FULL", behind(20, THREE, 0), STATE, y -> y.order(0));
        refused("22 FULL: 20 DEEDS", behind(20, THREE, 0), FULL, y -> y.order(1));
        SubgroupWriter x = behind(19, THREE, 0);
        due("22 the 20th DEED", x.order(1), 9);
        due("22 the 20th DEED", x.count(8), 20);
        SubgroupWriter z = of(THREE);
        z.cut(3);
        z.solve(0, 2);
        z.shorten();
        due("22 RULES are made anew", z.order(1), 9);
        due("22 all SIGNS LEFT", z.count(5), 15);
        due("22 back again: RULES are made anew", z.order(0), 9);
        dueRule("22 back again", z, 3, 2);
        dueRule("22 back again", z, 8, 1, 2, 4);
        due("22 back again: a DEED, too", z.count(8), 5);
    }

    private static void turn() {
        SubgroupWriter x = of(THREE);
        due("23 of one SIGN", x.turn(0), 1);
        dueRule("23 of one SIGN", x, 0, 2);
        due("23 of two", x.turn(4), 2);
        dueRule("23 of two", x, 4, 1, 3);
        due("23 the last RULE", x.turn(8), 3);
        dueRule("23 the last RULE", x, 8, 2, 4, 1);
        due("23 DEEDS", x.count(8), 3);
        // RULES: 3; 2 1 -2 and 3 3; 2 1 1 -2
        SubgroupWriter y = of("a10b01=abA=abbA");
        dueRule("23", y, 2, 2, 1, -2);
        due("23 REDUCED then, to one", y.turn(2), 1);
        dueRule("23 REDUCED then, to one", y, 2, 1);
        due("23 REDUCED then, to two", y.turn(3), 2);
        dueRule("23 REDUCED then, to two", y, 3, 1, 1);
        SubgroupWriter z = of(LONG);
        z.join(0, 1);
        due("23 of 16", z.turn(0), 16);
        dueRule("23 of 16", z, 0, 1, 1, 1, 1, 1, 1, 1, 3, 3, 3, 3, 3, 3, 3, 3, 1);
        for (int i : new int[] {MIN, -1, 9, MAX}) {
            refused("23 BAD: no RULE", of(THREE), BAD, w -> w.turn(i));
            refused("23 BAD ahead of FULL", behind(20, THREE, 0), BAD, w -> w.turn(i));
        }
        refused("23 STATE: it has none", of(EMPTY), STATE, w -> w.turn(2));
        refused("23 STATE ahead of FULL", behind(20, EMPTY, 1), STATE, w -> w.turn(0));
        refused("23 FULL", behind(20, EMPTY, 1), FULL, w -> w.turn(1));
        due("23 the 20th DEED", behind(19, EMPTY, 1).turn(1), 2);
    }

    private static void over() {
        SubgroupWriter x = of(THREE);
        due("24 of one SIGN", x.over(0), 1);
        dueRule("24 of one SIGN", x, 0, -2);
        due("24 the last RULE", x.over(8), 3);
        dueRule("24 the last SIGN first, each below 0", x, 8, -4, -2, -1);
        due("24 or above again", x.over(8), 3);
        dueRule("24 or above again", x, 8, 1, 2, 4);
        due("24 DEEDS", x.count(8), 3);
        SubgroupWriter y = of(STUCK);
        due("24 of both ways", y.over(3), 8);
        dueRule("24 of both ways", y, 3, -3, -3, -3, -3, -3, 2, -1, -2);
        SubgroupWriter z = of(LONG);
        z.join(0, 1);
        due("24 of 16", z.over(0), 16);
        dueRule("24 of 16", z, 0, -3, -3, -3, -3, -3, -3, -3, -3, -1, -1, -1, -1, -1, -1, -1, -1);
        for (int i : new int[] {MIN, -1, 9, MAX}) {
            refused("24 BAD: no RULE", of(THREE), BAD, w -> w.over(i));
            refused("24 BAD ahead of FULL", behind(20, THREE, 0), BAD, w -> w.over(i));
        }
        refused("24 STATE: it has none", of(EMPTY), STATE, w -> w.over(2));
        refused("24 STATE ahead of FULL", behind(20, EMPTY, 1), STATE, w -> w.over(0));
        refused("24 FULL", behind(20, EMPTY, 1), FULL, w -> w.over(1));
        due("24 the 20th DEED", behind(19, EMPTY, 1).over(1), 2);
    }

    /** RULES: 1 (8 times); 1; 3 (8 times); 3. */
    private static final String EIGHT = "a10b01=bbbbbbbb=b";

    private static SubgroupWriter sixteen(int deeds) {
        SubgroupWriter x = behind(deeds, EIGHT, 3);
        due("25 16 SIGNS", x.join(0, 2), 16);
        return x;
    }

    private static void join() {
        SubgroupWriter x = sixteen(0);
        dueRule("25 16 SIGNS", x, 0, 1, 1, 1, 1, 1, 1, 1, 1, 3, 3, 3, 3, 3, 3, 3, 3);
        dueRule("25 the other one stays", x, 2, times(8, 3));
        due("25 a DEED", x.count(8), 1);
        refused("25 SPENT: 17", sixteen(0), SPENT, y -> y.join(0, 1));
        refused("25 SPENT: 17, the long one behind", sixteen(0), SPENT, y -> y.join(1, 0));
        refused("25 SPENT: 24", sixteen(0), SPENT, y -> y.join(0, 2));
        x.over(3);
        due("25 REDUCED from 17", x.join(0, 3), 15);
        x.over(2);
        due("25 REDUCED from 23", x.join(0, 2), 9);
        dueRule("25 REDUCED: as far as it goes", x, 0, 1, 1, 1, 1, 1, 1, 1, 1, -3);
        SubgroupWriter y = of(THREE);
        y.over(3);
        due("25 REDUCED to none", y.join(0, 3), 0);
        refused("25 of none then", y, BAD, z -> z.rule(0, 0));
        due("25 the RULE is there", y.count(6), 9);
        SubgroupWriter w = of(EMPTY);
        due("25 with one of no SIGNS", w.join(1, 0), 2);
        due("25 one of no SIGNS with another", w.join(0, 1), 2);
        dueRule("25 one of no SIGNS with another", w, 0, 1, 1);
        due("25 the last with the first", w.join(3, 0), 4);
        dueRule("25 the last with the first", w, 3, 3, 3, 1, 1);
        SubgroupWriter both = of(EMPTY);
        due("25 both of no SIGNS", both.join(0, 2), 0);
        due("25 both of no SIGNS: a DEED", both.count(8), 1);
        for (int i : new int[] {MIN, -1, 9, MAX}) {
            refused("25 BAD: no RULE", of(THREE), BAD, z -> z.join(i, 0));
            refused("25 BAD: no other RULE", of(THREE), BAD, z -> z.join(0, i));
            refused("25 BAD ahead of FULL", behind(20, THREE, 0), BAD, z -> z.join(0, i));
        }
        refused("25 BAD: also the same", of(THREE), BAD, z -> z.join(8, 8));
        refused("25 BAD: the same, ahead of SPENT", sixteen(0), BAD, z -> z.join(0, 0));
        refused("25 BAD: the same, ahead of FULL", behind(20, THREE, 0), BAD, z -> z.join(1, 1));
        refused("25 SPENT ahead of FULL", sixteen(19), SPENT, z -> z.join(0, 1));
        refused("25 FULL", sixteen(19), FULL, z -> z.join(1, 3));
        refused("25 FULL", behind(20, EIGHT, 3), FULL, z -> z.join(0, 2));
    }

    private static void cut() {
        for (int i = 0; i < 9; i++) {
            // RULES 0, 1, 2, 5, 7 are the first of those that are ALIKE
            int rule = i;
            if ((0b010100111 >> i & 1) == 1) {
                refused("26 STATE: it can't be", of(THREE), STATE, y -> y.cut(rule));
            } else {
                due("26 ALIKE an earlier one", of(THREE).cut(i), 8);
            }
        }
        SubgroupWriter x = of(THREE);
        due("26 the last RULE", x.cut(8), 8);
        dueRule("26 the one ahead stays", x, 7, 4, 4);
        due("26 SIGNS stay LEFT", x.count(5), 15);
        due("26 a DEED", x.count(8), 1);
        refused("26 BAD: a RULE that is gone", x, BAD, y -> y.cut(8));
        SubgroupWriter z = of(THREE);
        z.over(0);
        due("26 an earlier one TURNED OVER", z.cut(3), 8);
        SubgroupWriter w = of("a10b01=bB");
        due("26 no SIGNS: the first RULE", w.cut(0), 1);
        due("26 no SIGNS: the only RULE", w.cut(0), 0);
        refused("26 BAD: without RULES", w, BAD, y -> y.cut(0));
        due("26 no SIGNS: the last RULE", of("a10b01=bB").cut(1), 1);
        for (int i : new int[] {MIN, -1, 9, MAX}) {
            refused("26 BAD: no RULE", of(THREE), BAD, y -> y.cut(i));
            refused("26 BAD ahead of FULL", behind(20, THREE, 0), BAD, y -> y.cut(i));
        }
        refused("26 STATE ahead of FULL", behind(20, THREE, 0), STATE, y -> y.cut(0));
        refused("26 FULL", behind(20, THREE, 0), FULL, y -> y.cut(3));
        due("26 the 20th DEED", behind(19, THREE, 0).cut(3), 8);
    }

    /** RULES: 1 (8 times); 1 2 4; 3; 4 (8 times); 4 5 3 1 -3; 3. */
    private static final String DOUBLED = "a10b01c01=bbbbbbbb=bcabA=aa";

    private static SubgroupWriter nine(int deeds) {
        SubgroupWriter x = behind(deeds, DOUBLED, 2);
        due("27 9 SIGNS", x.join(0, 2), 9);
        return x;
    }

    private static void solve() {
        SubgroupWriter x = of(DOUBLED);
        due("27 one would have 16", x.solve(1, 1), 5);
        dueRule("27 one would have 16", x, 0, -4, -2, -4, -2, -4, -2, -4, -2, -4, -2, -4, -2, -4, -2, -4, -2);
        refused("27 SPENT: one would have 17", nine(0), SPENT, y -> y.solve(1, 1));
        SubgroupWriter z = of(DOUBLED);
        due("27 11 SIGNS", z.join(0, 1), 11);
        due("27 one would have 16, REDUCED from 20", z.solve(1, 1), 5);
        dueRule("27 one would have 16, REDUCED from 20", z, 0,
                -4, -2, -4, -2, -4, -2, -4, -2, -4, -2, -4, -2, -4, -2, -4, -2);
        // RULES: 1 (7 times) 2; 2 5 5; 4 (7 times) 5; 5 3 2 2 -3: 2 is -5 -5, and once in the first
        SubgroupWriter once = of("a10b01c01=bbbbbbbc=caccA");
        due("27 16 SIGNS, one of them 2", once.join(0, 2), 16);
        refused("27 SPENT: one that has the SIGN just once would have 17", once, SPENT, y -> y.solve(1, 2));
        once.undo(0);
        due("27 one that has the SIGN just once would have 9", once.solve(1, 2), 3);
        dueRule("27 one that has the SIGN just once would have 9", once, 0, 1, 1, 1, 1, 1, 1, 1, -5, -5);
        refused("27 SPENT ahead of FULL", nine(19), SPENT, y -> y.solve(1, 1));
        refused("27 FULL", nine(19), FULL, y -> y.solve(1, 2));
        due("27 the 20th DEED", nine(18).solve(1, 2), 5);
        for (int i : new int[] {MIN, -1, 9, MAX}) {
            refused("27 BAD: no RULE", of(THREE), BAD, y -> y.solve(i, 2));
            refused("27 BAD ahead of FULL", behind(20, THREE, 0), BAD, y -> y.solve(i, 2));
        }
        for (int sign : new int[] {MIN, -2, 0, 5, 34, MAX}) {
            refused("27 BAD: no SIGN", of(THREE), BAD, y -> y.solve(0, sign));
            refused("27 BAD ahead of FULL", behind(20, THREE, 0), BAD, y -> y.solve(0, sign));
        }
        SubgroupWriter w = of(THREE);
        w.solve(0, 2);
        refused("27 BAD: a SIGN that is not LEFT", w, BAD, y -> y.solve(7, 2));
        refused("27 STATE: not in it", of(THREE), STATE, y -> y.solve(0, 1));
        refused("27 STATE: twice", of(THREE), STATE, y -> y.solve(2, 3));
        refused("27 STATE: once above, once below 0", of(STUCK), STATE, y -> y.solve(3, 2));
        refused("27 STATE: of no SIGNS", of(EMPTY), STATE, y -> y.solve(0, 1));
        refused("27 STATE ahead of SPENT: not in it", of(STUCK), STATE, y -> y.solve(0, 3));
        refused("27 STATE ahead of SPENT: eight times", of(STUCK), STATE, y -> y.solve(0, 1));
        refused("27 STATE ahead of SPENT: eight times", of(STUCK), STATE, y -> y.solve(2, 3));
        refused("27 STATE ahead of FULL", behind(20, THREE, 0), STATE, y -> y.solve(0, 1));
        refused("27 STATE ahead of FULL", behind(20, THREE, 0), STATE, y -> y.solve(2, 3));
        refused("27 FULL", behind(20, THREE, 0), FULL, y -> y.solve(0, 2));
        due("27 the 20th DEED", behind(19, THREE, 0).solve(0, 2), 8);
    }

    private static void solvePuts() {
        SubgroupWriter x = of(THREE);
        due("27 u, v of no SIGNS", x.solve(6, 2), 8);
        dueRule("27 u, v of no SIGNS: it is gone", x, 5, 4, 1);
        dueRule("27 u, v of no SIGNS: it is gone", x, 7, 1, 4);
        due("27 the SIGN is not LEFT", x.count(5), 13);
        due("27 SIGNS (all there were)", x.count(4), 4);
        due("27 other RULES of no SIGNS stay", x.count(6), 8);
        // 2 4 1: 1 is -4 -2 (v of no SIGNS), 2 is -1 -4 (u of none), 4 is -2 -1 (both)
        SubgroupWriter v = of(THREE);
        v.solve(5, 1);
        dueRule("27 u alone", v, 1, -4, -2, 3);
        dueRule("27 u alone, REDUCED to none", v, 7);
        SubgroupWriter u = of(THREE);
        u.solve(5, 2);
        dueRule("27 v alone", u, 0, -1, -4);
        SubgroupWriter both = of(THREE);
        both.over(7);
        both.solve(5, 4);
        dueRule("27 both; TURNED OVER, where it is below 0", both, 6, 1, 2, 1, 2);
        // -1 -4 -2: 1 is -4 -2, 2 is -1 -4, 4 is -2 -1
        SubgroupWriter below = of(THREE);
        below.over(5);
        below.solve(5, 1);
        dueRule("27 the SIGN below 0, v alone", below, 1, -4, -2, 3);
        SubgroupWriter last = of(THREE);
        last.over(5);
        last.solve(5, 2);
        dueRule("27 the SIGN below 0, u alone", last, 0, -1, -4);
        SubgroupWriter mid = of(THREE);
        mid.over(5);
        mid.solve(5, 4);
        dueRule("27 the SIGN below 0, both", mid, 6, -2, -1, -2, -1);
        // RULE 4, by which 5 is -4 3 -1 -3, is gone; the last one comes to its place
        SubgroupWriter w = of(DOUBLED);
        due("27 in no other RULE", w.solve(4, 5), 5);
        dueRule("27 the RULE is gone", w, 4, 3);
        dueRule("27 those ahead stay", w, 1, 1, 2, 4);
        SubgroupWriter only = of("a10=aa");
        due("27 the first", only.solve(0, 1), 1);
        due("27 no SIGN is LEFT", only.count(5), 0);
        refused("27 BAD: no SIGN is LEFT", only, BAD, y -> y.solve(0, 1));
        due("27 its other RULE is of no SIGNS", only.cut(0), 0);
    }

    private static void shorten() {
        SubgroupWriter x = of("a12340b01234c01234=b=cc=bC");
        due("28 all of the most RULES", x.shorten(), 15);
        due("28 none is left", x.count(6), 0);
        due("28 a SIGN of no RULE is LEFT", x.count(5), 1 << 4);
        due("28 one DEED", x.count(8), 1);
        refused("28 STATE: none can be, for there are none", x, STATE, y -> y.shorten());
        due("28 undone at once", x.undo(0), 1);
        due("28 undone at once", x.count(6), 15);
        due("28 undone at once", x.count(5), 2047);
        SubgroupWriter z = of(EMPTY);
        due("28 CUT alone", z.shorten(), 2);
        due("28 CUT alone: all SIGNS are LEFT", z.count(5), 7);
        dueRule("28 CUT alone", z, 0, 1, 1);
        dueRule("28 CUT alone", z, 1, 3, 3);
        refused("28 STATE: none can be any more", z, STATE, y -> y.shorten());
        SubgroupWriter w = of("a10=aA");
        due("28 of no SIGNS", w.shorten(), 2);
        due("28 of no SIGNS", w.count(6), 0);
        refused("28 STATE: no GROUP", fresh(), STATE, y -> y.shorten());
        refused("28 STATE: no RULES", of(FIVE), STATE, y -> y.shorten());
        refused("28 STATE: none can be", of(STUCK), STATE, y -> y.shorten());
        refused("28 STATE ahead of FULL", behind(20, STUCK, 0), STATE, y -> y.shorten());
        refused("28 FULL", behind(20, THREE, 0), FULL, y -> y.shorten());
        due("28 the 20th DEED", behind(19, THREE, 0).shorten(), 8);
    }

    private static void shortenChooses() {
        // RULES: 1 -2; 4 -5
        SubgroupWriter x = of("a10b01c01=bC");
        due("28 the least SIGN", x.shorten(), 2);
        due("28 the least SIGN", x.count(5), 31 - 1 - 8);
        // RULES: 1 1 2; 4 4 5: 1 is in it twice
        SubgroupWriter y = of("a10b01c01=bbc");
        due("28 that is in it just once", y.shorten(), 2);
        due("28 that is in it just once", y.count(5), 31 - 2 - 16);
        // RULES: 1 2 1 2; 2; 4 5 4 5; 5
        SubgroupWriter z = of("a10b01c01=bcbc=c");
        due("28 of RULES by how many SIGNS they have", z.shorten(), 2);
        dueRule("28 of RULES by how many SIGNS they have", z, 0, 1, 1);
        dueRule("28 of RULES by how many SIGNS they have", z, 1, 4, 4);
        // RULES: 3 3 2; 2 1 1: by the first 2 is -3 -3, by the other one it would be -1 -1
        SubgroupWriter like = of("a10b01=abba");
        due("28 of like ones the first", like.shorten(), 1);
        dueRule("28 of like ones the first", like, 0, -3, -3, 1, 1);
        // RULES: 1 2 1 2; 2 1 2 1; 1 2 5 5; 4 5 4 5; 5 4 5 4; 4 5 3 2 2 -3: the first two, once SOLVED, were not ALIKE
        SubgroupWriter ahead = of("a10b01c01=bcbc=cbcb=bcaccA");
        due("28 the first RULE that can be CUT is; else one is SOLVED", ahead.shorten(), 4);
        dueRule("28 the first RULE that can be CUT is; else one is SOLVED", ahead, 0, -5, -5, -5, -5);
        dueRule("28 the first RULE that can be CUT is; else one is SOLVED", ahead, 1, 3, -2, -2, -2, -2, -3);
        // RULES: 1 1; -2; 3 3; -4; 6 6; -7; 8 8; -9; 10 10; -11
        SubgroupWriter far = of("a12340b01234c01234=bb=C");
        due("28 the last SIGN by the last RULE", far.shorten(), 5);
        due("28 the last SIGN by the last RULE", far.count(5), 0b01010110101);
        // RULES: 1 (8 times); 1 2 4 5; 4 (8 times); 4 5 3 1 2 -3: by 1 the first would have 24
        SubgroupWriter w = of("a10b01c01=bbbbbbbb=bcabcA");
        due("28 by which no other RULE would have more than 16", w.shorten(), 1);
        due("28 by which no other RULE would have more than 16", w.count(5), 31 - 2);
        dueRule("28 by which no other RULE would have more than 16", w, 2, 4, 5, 3, -5, -4, -3);
        // RULES: 2 1 1 1 1 1; 1 2 4 5; ..: by 1, which is -5 -4 -2, the first would have 16
        SubgroupWriter v = of("a10b01c01=cbbbbb=bcabcA");
        due("28 16 are no more than 16", v.shorten(), 1);
        due("28 16 are no more than 16", v.count(5), 31 - 1);
        dueRule("28 16 are no more than 16", v, 0, 2, -5, -4, -2, -5, -4, -2, -5, -4, -2, -5, -4, -2, -5, -4, -2);
        // RULES: 2 2 1 1 1 1 1; 1 2 4 5; ..: by 1 the first would have 17
        SubgroupWriter u = of("a10b01c01=ccbbbbb=bcabcA");
        due("28 17 are more than 16", u.shorten(), 1);
        due("28 17 are more than 16", u.count(5), 31 - 2);
        dueRule("28 17 are more than 16", u, 0, -1, -5, -4, -1, -5, -4, 1, 1, 1, 1, 1);
    }

    private static void undo() {
        SubgroupWriter x = of(THREE);
        long[] then = new long[21];
        for (int k = 0; k < 20; k++) {
            then[k] = x.digest();
            if (k % 3 == 0) x.turn(k % 9);
            if (k % 3 == 1) x.join(k % 9, (k + 1) % 9);
            if (k % 3 == 2) x.order((x.count(3) + 1) % 3);
            due("29 a DEED each", x.count(8), k + 1);
        }
        then[20] = x.digest();
        refused("29 BAD: 21 of 20", x, BAD, y -> y.undo(21));
        refused("29 BAD: far", x, BAD, y -> y.undo(MAX));
        refused("29 BAD: below 0", x, BAD, y -> y.undo(-1));
        refused("29 BAD: far below 0", x, BAD, y -> y.undo(MIN));
        due("29 from behind the last on: none", x.undo(20), 0);
        for (int n = 19; n >= 0; n--) {
            due("29 the last DEED", x.undo(n), 1);
            due("29 as it was ahead of it", x.digest(), then[n]);
        }
        due("29 none any more", x.undo(0), 0);
        refused("29 BAD: behind none", x, BAD, y -> y.undo(1));
        SubgroupWriter y = behind(20, THREE, 5);
        due("29 all 20", y.undo(0), 20);
        due("29 all 20: as at first", y.digest(), of(THREE).digest());
        due("29 DEEDS again", y.turn(5), 3);
        SubgroupWriter z = behind(20, THREE, 5);
        due("29 room for one", z.undo(19), 1);
        due("29 the 20th DEED again", z.over(5), 3);
        refused("29 FULL again", z, FULL, w -> w.over(5));
        SubgroupWriter v = behind(2, THREE, 5);
        v.keep(0);
        v.undo(0);
        due("29 a kept BOOK stays", v.on(0), 2);
    }

    private static void keepAndOn() {
        for (int k : new int[] {MIN, -1, 3, MAX}) {
            refused("30 BAD: no place", of(THREE), BAD, y -> y.keep(k));
            refused("30 BAD ahead of STATE", fresh(), BAD, y -> y.keep(k));
            refused("31 BAD: no place", of(THREE), BAD, y -> y.on(k));
            refused("31 BAD ahead of NOTHING", fresh(), BAD, y -> y.on(k));
        }
        for (int k = 0; k <= 2; k++) {
            int place = k;
            refused("30 STATE: no GROUP", fresh(), STATE, y -> y.keep(place));
            found("31 NOTHING: no GROUP", fresh(), NOTHING, y -> y.on(place));
            SubgroupWriter x = of(THREE);
            due("30 of no DEEDS", x.keep(k), 0);
            due("30 one kept", x.count(13), 1);
            found("31 NOTHING: none kept in the next place", x, NOTHING, y -> y.on((place + 1) % 3));
            found("31 NOTHING: none kept in the last place", x, NOTHING, y -> y.on((place + 2) % 3));
            long before = x.digest();
            x.order(1);
            x.shorten();
            due("31 of no DEEDS", x.on(k), 0);
            due("31 as it was kept", x.digest(), before);
        }
        SubgroupWriter x = behind(20, THREE, 5);
        due("30 of 20 DEEDS, FULL or not", x.keep(0), 20);
        x.undo(3);
        due("30 of 3 DEEDS", x.keep(1), 3);
        x.order(2);
        x.solve(0, 3);
        due("30 of 5 DEEDS", x.keep(2), 5);
        due("30 three kept", x.count(13), 3);
        due("31 of 20 DEEDS", x.on(0), 20);
        refused("31 of 20 DEEDS: FULL", x, FULL, y -> y.over(5));
        due("31 of 3 DEEDS", x.on(1), 3);
        due("31 ORDER", x.count(3), 0);
        due("31 gone on from", x.over(5), 3);
        due("31 of 5 DEEDS", x.on(2), 5);
        due("31 ORDER", x.count(3), 2);
        due("31 SIGNS that are LEFT", x.count(5), 15 - 4);
        due("31 RULES", x.count(6), 8);
        due("31 the DEEDS behind it don't change it", x.on(1), 3);
        due("30 kept over another one", x.keep(0), 3);
        due("31 the later one", x.on(0), 3);
        due("30 still three kept", x.count(13), 3);
    }

    /** A BOOK is kept behind one DEED, then another DEED stands in its place. */
    private static void dueKept(String sentence, Call deed, Call other) {
        SubgroupWriter x = of(THREE);
        due(sentence + ", can be", deed.on(x) >= 0 ? 1 : 0, 1);
        due(sentence + ", kept", x.keep(1), 1);
        long before = x.digest();
        x.undo(0);
        due(sentence + ", another one can be", other.on(x) >= 0 ? 1 : 0, 1);
        due(sentence + ", on", x.on(1), 1);
        due(sentence + ", as it was kept", x.digest(), before);
        x.undo(0);
        due(sentence + ", undone", x.count(7), 17);
        due(sentence + ", on again", x.on(1), 1);
        due(sentence + ", as it was kept still", x.digest(), before);
    }

    private static void keptDeeds() {
        dueKept("31 TURNED", y -> y.turn(5), y -> y.turn(8));
        dueKept("31 TURNED", y -> y.turn(5), y -> y.over(5));
        dueKept("31 TURNED OVER", y -> y.over(5), y -> y.over(8));
        dueKept("31 JOINED", y -> y.join(1, 5), y -> y.join(1, 2));
        dueKept("31 JOINED", y -> y.join(1, 5), y -> y.join(2, 5));
        dueKept("31 CUT", y -> y.cut(4), y -> y.cut(3));
        dueKept("31 SOLVED", y -> y.solve(5, 4), y -> y.solve(5, 1));
        dueKept("31 SOLVED", y -> y.solve(5, 4), y -> y.solve(8, 4));
        dueKept("31 SHORTENED", y -> y.shorten(), y -> y.turn(5));
        dueKept("31 ORDERED", y -> y.order(2), y -> y.order(1));
        dueKept("31 by LOTS", y -> y.lots(1, seedFor(2, 8, 9)), y -> y.lots(1, seedFor(2, 7, 9)));
        dueKept("31 by LOTS, nothing", y -> y.lots(1, seedFor(3, 0, 9)), y -> y.lots(1, seedFor(5, 0, 9)));
    }

    private static int next(long number) {
        return (int) (48271L * number % 2147483647L);
    }

    /** A seed by whose first number DEED kind falls to RULE i of so many (without RULES: to any). */
    private static int seedFor(int kind, int i, int rules) {
        for (int seed = 1; seed < 100000; seed++) {
            int number = next(seed);
            if (number / 8 % 6 == kind && (rules == 0 || number / 64 % rules == i)) return seed;
        }
        due("a seed is found", 0, 1);
        return 1;
    }

    private static void lots() {
        // 48271: by 8 it is 6033, 3 modulo 6: CUT; by 64 it is 754, 7 modulo 9: RULE 7 can't be CUT
        SubgroupWriter x = of(THREE);
        due("32 the least seed", x.lots(1, 1), 9);
        due("32 the least seed: a DEED of nothing", x.count(8), 1);
        due("32 the least seed: a DEED of nothing", x.count(7), 17);
        // 2147435376: by 8 it is 268429422, 0 modulo 6: TURNED; by 64 it is 33553677, 3 modulo 9
        SubgroupWriter y = of("a120b102=abab=aaa=bb");
        SubgroupWriter same = of("a120b102=abab=aaa=bb");
        due("32 the greatest seed", y.lots(1, 2147483646), 9);
        same.turn(3);
        due("32 the greatest seed", y.digest(), same.digest());
        for (int seed : new int[] {MIN, -1, 0, MAX}) refused("32 BAD: no seed " + seed, of(THREE), BAD, z -> z.lots(1, seed));
        for (int n : new int[] {MIN, -1, 0, 11, MAX}) refused("32 BAD: n " + n, of(THREE), BAD, z -> z.lots(n, 1));
        refused("32 BAD ahead of STATE", fresh(), BAD, z -> z.lots(0, 1));
        refused("32 BAD ahead of STATE", fresh(), BAD, z -> z.lots(1, 0));
        refused("32 STATE: no GROUP", fresh(), STATE, z -> z.lots(1, 1));
        refused("32 STATE: no GROUP", fresh(), STATE, z -> z.lots(10, 2147483646));
        SubgroupWriter ten = of(THREE);
        SubgroupWriter each = of(THREE);
        ten.lots(10, 123456789);
        int seed = 123456789;
        for (int k = 0; k < 10; k++) {
            each.lots(1, seed);
            seed = next(seed);
        }
        due("32 a number comes from the one ahead", ten.digest(), each.digest());
        due("32 ten DEEDS", ten.count(8), 10);
    }

    private static void dueLot(String sentence, String text, int kind, int i, Call deed) {
        SubgroupWriter x = of(text);
        SubgroupWriter y = of(text);
        due(sentence + ", can be", deed.on(y) >= 0 ? 1 : 0, 1);
        due(sentence + ", RULES then", x.lots(1, seedFor(kind, i, x.count(6))), y.count(6));
        due(sentence, x.digest(), y.digest());
        due(sentence + ", undone", x.undo(0), 1);
        due(sentence + ", undone", x.digest(), of(text).digest());
    }

    private static void lotsOfEachKind() {
        dueLot("32 0 TURNED: the first", THREE, 0, 0, y -> y.turn(0));
        dueLot("32 0 TURNED: the last", THREE, 0, 8, y -> y.turn(8));
        dueLot("32 1 TURNED OVER: the first", THREE, 1, 0, y -> y.over(0));
        dueLot("32 1 TURNED OVER: the last", THREE, 1, 8, y -> y.over(8));
        dueLot("32 2 JOINED with the next one", THREE, 2, 0, y -> y.join(0, 1));
        dueLot("32 2 JOINED with the next one: the last but one", THREE, 2, 7, y -> y.join(7, 8));
        dueLot("32 2 JOINED: the last with the first", THREE, 2, 8, y -> y.join(8, 0));
        dueLot("32 2 JOINED: one of no SIGNS", EMPTY, 2, 0, y -> y.join(0, 1));
        dueLot("32 2 JOINED: with one of no SIGNS", EMPTY, 2, 3, y -> y.join(3, 0));
        dueLot("32 3 CUT: ALIKE", THREE, 3, 8, y -> y.cut(8));
        dueLot("32 3 CUT: of no SIGNS", EMPTY, 3, 0, y -> y.cut(0));
        dueLot("32 4 SOLVED: the first", THREE, 4, 0, y -> y.solve(0, 2));
        dueLot("32 4 SOLVED for the least SIGN", THREE, 4, 8, y -> y.solve(8, 1));
        dueLot("32 4 SOLVED for the least SIGN that is in it just once", "a10b01c01=bbc", 4, 0, y -> y.solve(0, 2));
        dueLot("32 5 ORDERED", THREE, 5, 0, y -> y.order(1));
        dueLot("32 5 ORDERED: without RULES", FIVE, 5, 0, y -> y.order(1));
        SubgroupWriter x = of(THREE);
        for (int k = 0; k < 6; k++) {
            x.lots(1, seedFor(5, k, 9));
            due("32 by the ORDER and 1 (modulo 3)", x.count(3), (k + 1) % 3);
        }
    }

    /** A DEED of nothing: the DEED is counted, nothing else changes. */
    private static void dueIdle(String sentence, SubgroupWriter x, int kind, int i) {
        int seed = seedFor(kind, i, x.count(6));
        int[] counts = new int[14];
        for (int what = 0; what < 14; what++) counts[what] = x.count(what);
        x.reached(0, 0);
        long[] told = {x.asked(), x.upper(), x.lower(), x.finding()};
        long rules = rulesOf(x);
        x.reached(0, 0);
        due(sentence, x.lots(1, seed), counts[6]);
        same(sentence + ", nothing told", new long[] {x.asked(), x.upper(), x.lower(), x.finding()}, told);
        counts[8]++;
        for (int what = 0; what < 14; what++) due(sentence + ", count " + what, x.count(what), counts[what]);
        due(sentence + ", RULES stay", rulesOf(x), rules);
        due(sentence + ", undone", x.undo(counts[8] - 1), 1);
    }

    private static long rulesOf(SubgroupWriter x) {
        long h = 17;
        for (int i = 0; i < x.count(6); i++) {
            for (int k = 0; x.rule(i, k) > k; k++) h = 31 * h + x.asked();
            h = 31 * h + 1000;
        }
        return h;
    }

    private static void lotsThatCannotBe() {
        dueIdle("32 can't be TURNED: of no SIGNS", of(EMPTY), 0, 0);
        dueIdle("32 can't be TURNED OVER: of no SIGNS", of(EMPTY), 1, 2);
        SubgroupWriter long2 = of(LONG);
        long2.join(0, 1);
        dueIdle("32 can't be JOINED: more than 16", long2, 2, 0);
        dueIdle("32 can't be JOINED: more than 16, the last with the first", long2, 2, 1);
        SubgroupWriter one = of(THREE);
        one.shorten();
        due("32 one RULE", one.count(6), 1);
        dueIdle("32 can't be JOINED: with itself", one, 2, 0);
        SubgroupWriter last = of("a10b01=b=aA");
        last.solve(0, 1);
        last.cut(0);
        last.cut(1);
        dueRule("32 one RULE", last, 0, 3);
        dueIdle("32 can't be JOINED: with itself", last, 2, 0);
        dueIdle("32 can't be CUT", of(THREE), 3, 0);
        dueIdle("32 can't be CUT: ALIKE a later one", of(THREE), 3, 5);
        dueIdle("32 can't be SOLVED: no SIGN just once", of(THREE), 4, 2);
        dueIdle("32 can't be SOLVED: of no SIGNS", of(EMPTY), 4, 0);
        dueIdle("32 can't be SOLVED: more than 16", of(STUCK), 4, 1);
        SubgroupWriter none = of("a10b01=bB");
        none.shorten();
        for (int kind = 0; kind < 5; kind++) dueIdle("32 without RULES all but 5: " + kind, none, kind, 0);
        for (int kind = 0; kind < 5; kind++) dueIdle("32 without RULES all but 5: " + kind, of(FIVE), kind, 0);
    }

    private static void lotsFull() {
        SubgroupWriter x = behind(10, THREE, 0);
        due("32 with 10 more there are 20", x.lots(10, 5) >= 0 ? 1 : 0, 1);
        due("32 with 10 more there are 20", x.count(8), 20);
        refused("32 FULL: with 1 more", x, FULL, y -> y.lots(1, 5));
        refused("32 FULL: with 10 more there would be 21", behind(11, THREE, 0), FULL, y -> y.lots(10, 5));
        refused("32 FULL: with 2 more there would be 21", behind(19, THREE, 0), FULL, y -> y.lots(2, 5));
        SubgroupWriter z = behind(19, THREE, 0);
        z.lots(1, 5);
        due("32 with 1 more there are 20", z.count(8), 20);
        refused("32 BAD ahead of FULL", behind(20, THREE, 0), BAD, y -> y.lots(11, 5));
        refused("32 BAD ahead of FULL", behind(20, THREE, 0), BAD, y -> y.lots(1, 0));
        refused("32 BAD ahead of FULL", behind(20, THREE, 0), BAD, y -> y.lots(0, 5));
        refused("32 FULL: DEEDS of nothing, too", behind(20, THREE, 0), FULL, y -> y.lots(1, seedFor(3, 0, 9)));
    }

    // ---- 4 ranks, chances

    private static void dueRank(String sentence, SubgroupWriter x, int p, int rank, int spare) {
        due(sentence + " by " + p, x.rank(p), rank);
        due(sentence + " by " + p + ", SPARE", x.asked(), spare);
    }

    private static void rank() {
        for (int n = 1; n <= 8; n++) {
            // RULES: 1 (n times); 3 (n times)
            SubgroupWriter x = of("a10b01=bbbbbbbb".substring(0, 7 + n));
            SubgroupWriter y = of("a10b01=BBBBBBBB".substring(0, 7 + n));
            for (int p : PRIMES) {
                int rank = n % p == 0 ? 0 : 2;
                dueRank("33 modulo P, " + n + " times", x, p, rank, 3 - rank);
                dueRank("33 modulo P, " + n + " times below 0", y, p, rank, 3 - rank);
            }
        }
        for (int p : PRIMES) {
            dueRank("33 no RULES", of(FIVE), p, 0, 11);
            dueRank("33 RULES of no SIGNS", of("a10b01=bB"), p, 0, 3);
            SubgroupWriter gone = of("a10=aa");
            dueRank("33 all SIGNS", gone, p, 1, 0);
            gone.shorten();
            dueRank("33 no SIGNS are LEFT", gone, p, 0, 0);
            dueRank("33 more RULES than SIGNS", of(THREE), p, p == 2 ? 3 : 4, p == 2 ? 1 : 0);
            dueRank("33 all 15 RULES", of("a12340b01234c01234=b=cc=bC"), p, 10, 1);
            // RULES: 1 2 -1 -2; 4 5 -4 -5
            dueRank("33 less how often below 0: none", of("a10b01c01=bcBC"), p, 0, 5);
            // RULES: 1 2 1 -2; 4 5 4 -5
            dueRank("33 less how often below 0: twice", of("a10b01c01=bcbC"), p, p == 2 ? 0 : 2, p == 2 ? 5 : 3);
        }
        // RULES: 3; 2 1 -2
        dueRank("33 less how often below 0", of("a10b01=abA"), 2, 2, 1);
        for (int p : new int[] {MIN, -7, -2, -1, 0, 1, 4, 6, 8, 9, 10, 11, 13, MAX}) {
            refused("33 BAD: P " + p, of(THREE), BAD, y -> y.rank(p));
            refused("33 BAD ahead of STATE", fresh(), BAD, y -> y.rank(p));
            refused("34 BAD: P " + p, of(THREE), BAD, y -> y.ways(p));
            refused("34 BAD ahead of STATE", fresh(), BAD, y -> y.ways(p));
        }
        for (int p : PRIMES) {
            refused("33 STATE: no GROUP", fresh(), STATE, y -> y.rank(p));
            refused("34 STATE: no GROUP", fresh(), STATE, y -> y.ways(p));
        }
    }

    private static void dueWays(String sentence, String text, int p, int often, long upper) {
        SubgroupWriter x = of(text);
        x.odds(0, 0, 2);
        due(sentence + " by " + p, x.ways(p), often);
        due(sentence + " by " + p + ", upper", x.upper(), upper);
        due(sentence + " by " + p + ", lower", x.lower(), 1);
    }

    private static void ways() {
        for (int p : PRIMES) {
            dueWays("34 no RELATORS: one GENERATOR", "a10", p, 1, p);
            dueWays("34 no RELATORS: all", "a10b01c01", p, 3, (long) p * p * p);
            dueWays("34 none but 0: P 0 times is 1", "a10b01=b=aaB", p, p == 2 ? 1 : 0, p == 2 ? 2 : 1);
            dueWays("34 each LETTER more or less", "a10b01=abAB", p, 2, (long) p * p);
            dueWays("34 below 0", "a10b01=BaBA", p, p == 2 ? 2 : 1, p == 2 ? 4 : p);
        }
        for (int n = 1; n <= 8; n++) {
            for (int p : PRIMES) {
                int often = n % p == 0 ? 2 : 1;
                dueWays("34 modulo P, " + n + " times", "a10b01=bbbbbbbb".substring(0, 7 + n), p, often, often == 2 ? (long) p * p : p);
            }
        }
        SubgroupWriter x = of(THREE);
        x.shorten();
        due("34 by RELATORS, whatever RULES there are", x.ways(2), 1);
    }

    private static void odds() {
        SubgroupWriter x = of(THREE);
        for (int k = 0; k < 3; k++) {
            for (int m = 0; m < 3; m++) dueShare("35 no LETTERS", x, x.odds(k, m, 0), k == m ? 1 : 0, 1);
        }
        dueShare("35 one LETTER, in lowest terms", x, x.odds(2, 2, 1), 1, 2);
        dueShare("35 0 by 1", x, x.odds(0, 0, 1), 0, 1);
        dueShare("35 two LETTERS, in lowest terms", x, x.odds(0, 0, 2), 5, 8);
        SubgroupWriter y = of("a10");
        dueShare("35 eight LETTERS: surely", y, y.odds(0, 0, 8), 1, 1);
        dueShare("35 eight LETTERS: never", y, y.odds(0, 1, 8), 0, 1);
        dueShare("35 seven LETTERS", y, y.odds(0, 1, 7), 1, 1);
        SubgroupWriter z = of("a01b01c10");
        dueShare("35 eight of six LETTERS", z, z.odds(0, 0, 8), 3281, 6561);
        dueShare("35 eight of six LETTERS", z, z.odds(0, 1, 8), 3280, 6561);
        SubgroupWriter w = of(FIVE);
        long above = 0;
        for (int m = 0; m < 5; m++) {
            w.odds(4, m, 8);
            above += w.upper() * (1679616L / w.lower());
            due("35 the lower number divides", 1679616L % w.lower(), 0);
        }
        due("35 all chances are 1", above, 1679616L);
        for (int n : new int[] {MIN, -1, 9, MAX}) refused("35 BAD: n", of(THREE), BAD, v -> v.odds(0, 0, n));
        for (int k : new int[] {MIN, -1, 3, MAX}) {
            refused("35 BAD: no POINT", of(THREE), BAD, v -> v.odds(k, 0, 1));
            refused("35 BAD: no other POINT", of(THREE), BAD, v -> v.odds(0, k, 1));
        }
    }

    private static void mid() {
        SubgroupWriter x = of(THREE);
        for (int k = 0; k < 3; k++) dueShare("36 no LETTERS: 0 by 1", x, x.mid(k, 0), 0, 1);
        dueShare("36 one LETTER, in lowest terms", x, x.mid(0, 1), 1, 2);
        dueShare("36 one LETTER, the last POINT", x, x.mid(2, 1), 3, 4);
        dueShare("36 four LETTERS", x, x.mid(0, 4), 111, 64);
        SubgroupWriter y = of("a10");
        // of aa, aA, Aa, AA: 1, 0, 0, 1; of four: aaaa 2, and AAAA 2; four of each other kind 1; of two and two 0
        dueShare("36 two of one GENERATOR", y, y.mid(0, 2), 1, 2);
        dueShare("36 four of one GENERATOR", y, y.mid(0, 4), 3, 4);
        SubgroupWriter z = of("a10b01c01");
        // by a none (from 0) or its SIGN; by b, c a SIGN each way: from 0 five of six LETTERS
        dueShare("36 one of three GENERATORS", z, z.mid(0, 1), 5, 6);
        // a and another: 5 in all; A and another: 9; b, B, c or C and another: 9 each
        dueShare("36 two of three GENERATORS", z, z.mid(0, 2), 25, 18);
        x.shorten();
        dueShare("36 SIGNS that are LEFT or not", x, x.mid(0, 4), 111, 64);
        for (int n : new int[] {MIN, -1, 5, MAX}) refused("36 BAD: n", of(THREE), BAD, v -> v.mid(0, n));
        for (int k : new int[] {MIN, -1, 3, MAX}) refused("36 BAD: no POINT", of(THREE), BAD, v -> v.mid(k, 1));
    }

    // ---- 5 what is told

    private static void asked() {
        SubgroupWriter x = of(THREE);
        due("37 0 before", x.asked(), 0);
        Call[] tell = {
            y -> y.at(0, 0), y -> y.lay(0, 1, 8), y -> y.mean(0), y -> y.reached(0, 1), y -> y.edge(5, 3),
            y -> y.mark(5, 2), y -> y.written(2, 1, 2), y -> y.rule(8, 2), y -> y.often(2, 3), y -> y.rank(2)};
        int[] told = {6, 7, 7, NONE, 4, 3, 2, 4, 2, 1};
        fill(x, 0, 6, 7);
        x.row(1, 0);
        for (int k = 0; k < tell.length; k++) {
            due("37 not refused, " + k, tell[k].on(x) >= 0 ? 1 : 0, 1);
            due("37 told, " + k, x.asked(), told[k]);
            due("37 told again, " + k, x.asked(), told[k]);
        }
        Call[] still = {
            y -> y.row(3, 2), y -> y.tear(3), y -> y.copy(0, 0, 0, 1, 1), y -> y.text(1, 2), y -> y.put(1, 0, 9),
            y -> y.fault(0), y -> y.fault(1), y -> y.goes(0, 1), y -> y.way(2, 4), y -> y.spelt(1, 4), y -> y.alike(0, 3),
            y -> y.order(1), y -> y.order(0), y -> y.turn(5), y -> y.over(5), y -> y.join(0, 5), y -> y.cut(6),
            y -> y.solve(1, 1), y -> y.shorten(), y -> y.undo(2), y -> y.keep(1), y -> y.on(1), y -> y.lots(3, 7),
            y -> y.ways(3), y -> y.odds(0, 1, 3), y -> y.mid(1, 3), y -> y.count(5), y -> y.finding(), y -> y.findings(1),
            y -> (int) y.upper() & 1, y -> (int) y.lower() & 1, y -> (int) y.digest() & 1, y -> y.group(0)};
        x.reached(1, 1);
        for (int k = 0; k < still.length; k++) {
            int answer = still[k].on(x);
            due("37 not refused, " + k, answer >= 0 || answer == NONE ? 1 : 0, 1);
            due("37 tells nothing, " + k, x.asked(), 1);
        }
    }

    private static void upperAndLower() {
        SubgroupWriter x = of(THREE);
        due("38 0 before", x.upper(), 0);
        due("39 1 before", x.lower(), 1);
        x.odds(0, 0, 2);
        x.reached(0, 0);
        x.rank(2);
        x.group(0);
        x.shorten();
        x.undo(0);
        due("38 told last", x.upper(), 5);
        due("39 told last", x.lower(), 8);
        x.ways(2);
        due("38 told last by ways()", x.upper(), 2);
        due("39 told last by ways()", x.lower(), 1);
        x.mid(2, 1);
        due("38 told last by mid()", x.upper(), 3);
        due("39 told last by mid()", x.lower(), 4);
        refused("38, 39 a refused odds() leaves them", x, BAD, y -> y.odds(0, 0, 9));
        x.mid(2, 0);
        due("38 0 by 1", x.upper(), 0);
        due("39 0 by 1", x.lower(), 1);
    }

    private static void dueCounts(String sentence, SubgroupWriter x, int... counts) {
        for (int what = 0; what <= 13; what++) due(sentence + ", count " + what, x.count(what), counts[what]);
    }

    private static void counts() {
        dueCounts("40 none", fresh(), 0, 0, 0, 0, 0, 0, 0, 0, 0, 0, 0, 0, 0, 0);
        dueCounts("40 the least GROUP", of("a10"), 2, 1, 0, 0, 1, 1, 0, 0, 0, 0, 1, 0, 1, 0);
        SubgroupWriter x = of("a12340b10234c01234=aAaAaAaA=bbbbbbbb=cccccccc");
        for (int r = 0; r <= 5; r++) x.row(r, 0);
        for (int t = 1; t <= 3; t++) x.text(t, 0);
        for (int k = 0; k < 20; k++) x.over(2);
        for (int k = 0; k <= 2; k++) x.keep(k);
        // BROAD: 1, 4 from 0 by a, A, 2 from 1, 3 from 4; b is a TWIN twice, c a LOOP five times, b three times
        dueCounts("40 the most", x, 5, 3, 3, 0, 11, 2047, 15, x.count(7), 20, 8, 2, 6, 4, 3);
        // bbbbbbbb: from 0 and 1 both SIGNS four times, else one eight times; cccccccc: one eight times; aA: none
        due("40 7 all their SIGNS together", x.count(7), 5 * 8 + 5 * 8);
        x.tear(3);
        due("40 11 ROWS that are there", x.count(11), 5);
        for (int what : new int[] {MIN, -1, 14, MAX}) {
            refused("40 BAD: what", of(THREE), BAD, y -> y.count(what));
            refused("40 BAD: what", fresh(), BAD, y -> y.count(what));
        }
        SubgroupWriter y = of(THREE);
        y.solve(8, 1);
        due("40 5 bit 0 for SIGN 1", y.count(5), 14);
        due("40 4 all there were", y.count(4), 4);
        SubgroupWriter z = of(THREE);
        z.solve(8, 4);
        due("40 5 bit 3 for SIGN 4", z.count(5), 7);
    }

    private static void findings() {
        SubgroupWriter x = fresh();
        Call[] each = {y -> y.at(0, 0), y -> y.at(1, 0), y -> y.written(0, 2, 3), y -> y.mean(1), y -> y.row(0, -1)};
        type(x, 0, "a10");
        x.group(0);
        x.row(1, 0);
        fill(x, 2, 0);
        int[] counts = new int[6];
        for (int round = 0; round < 3; round++) {
            for (int f = 1; f <= 5; f++) {
                due("42 a FINDING", each[f - 1].on(x), FINDING);
                counts[f]++;
                due("41 the latest", x.finding(), f);
                for (int g = 1; g <= 5; g++) due("42 how often " + g, x.findings(g), counts[g]);
            }
        }
        x.row(1, 1);
        x.row(9, 0);
        x.order(0);
        due("41 still the latest, behind others", x.finding(), SIZE);
        x.group(0);
        due("42 a GROUP leaves them", x.findings(NOTHING), 3);
        for (int f : new int[] {MIN, -1, 0, 6, MAX}) refused("42 BAD", x, BAD, y -> y.findings(f));
    }

    private static void digest() {
        long h = 17;
        for (int k = 0; k < 14; k++) h = 31 * h;
        for (int k = 0; k < 3 + 6 + 4; k++) h = 31 * h - 1;
        due("43 all missing", fresh().digest(), h);
        SubgroupWriter x = fresh();
        for (int r = 0; r <= 5; r++) x.row(r, 0);
        for (int t = 0; t <= 3; t++) x.text(t, 0);
        h = 17;
        for (int what = 0; what <= 13; what++) h = 31 * h + x.count(what);
        for (int k = 0; k < 3; k++) h = 31 * h - 1;
        for (int k = 0; k < 10; k++) h = 31 * h;
        due("43 of no size, not missing", x.digest(), h);
        dueDigest("43 the least", of("a10"), -1, -1, -1);
        dueDigest("43 five POINTS", of(FIVE), -1, -1, -1);
        SubgroupWriter y = of(EMPTY);
        y.order(2);
        y.over(3);
        y.keep(1);
        y.row(2, 2);
        y.lay(2, 1, MIN);
        y.text(2, 3);
        y.put(2, 1, 128);
        dueDigest("43 ORDER 2, a RULE of no SIGNS", y, -1, 2, -1);
        SubgroupWriter z = of(THREE);
        z.keep(0);
        z.shorten();
        z.keep(2);
        z.row(5, 1);
        z.text(3, 0);
        dueDigest("43 SIGNS not LEFT, BOOKS kept", z, 0, -1, 1);
        refused("43 a refused call leaves it", z, BAD, w -> w.row(6, 0));
    }

    /** The digest, from what the other calls tell; how many DEEDS were kept is told to it. */
    private static void dueDigest(String sentence, SubgroupWriter x, int... kept) {
        long h = 17;
        for (int what = 0; what <= 13; what++) h = 31 * h + x.count(what);
        for (int point = 0; point < x.count(0); point++) {
            for (int what = 0; what <= 3; what++) h = 31 * h + toldBy(x, x.reached(point, what));
        }
        for (int e = 0; e < x.count(0) * x.count(1); e++) {
            for (int what = 0; what <= 4; what++) h = 31 * h + toldBy(x, x.edge(e, what));
        }
        for (int i = 0; i < x.count(6); i++) h = digestOfRule(x, i, h);
        for (int deeds : kept) h = 31 * h + deeds;
        due(sentence, x.digest(), digestOfTexts(x, digestOfRows(x, h)));
    }

    private static int toldBy(SubgroupWriter x, int answer) {
        due("43 told", answer, 1);
        return x.asked();
    }

    private static long digestOfRule(SubgroupWriter x, int i, long start) {
        int size = 0;
        while (x.rule(i, size) > 0) size++;
        long h = 31 * start + size;
        for (int k = 0; k < size; k++) {
            x.rule(i, k);
            h = 31 * h + x.asked();
        }
        return h;
    }

    private static long digestOfRows(SubgroupWriter x, long start) {
        long h = start;
        for (int r = 0; r < 6; r++) {
            int size = 0;
            while (x.at(r, size) == 1) size++;
            h = 31 * h + (x.finding() == NOTHING ? -1 : size);
            for (int k = 0; k < size; k++) {
                x.at(r, k);
                h = 31 * h + x.asked();
            }
        }
        return h;
    }

    /** Bytes are told by put(), which puts them back. */
    private static long digestOfTexts(SubgroupWriter x, long start) {
        long h = start;
        for (int t = 0; t < 4; t++) {
            int[] bytes = new int[60];
            int size = 0;
            int was = x.put(t, 0, 0);
            while (was != FINDING) {
                bytes[size] = was - 1000;
                x.put(t, size, bytes[size]);
                size++;
                was = x.put(t, size, 0);
            }
            h = 31 * h + (x.finding() == NOTHING ? -1 : size);
            for (int k = 0; k < size; k++) h = 31 * h + bytes[k];
        }
        return h;
    }

    // ---- all calls

    private static void withoutGroup() {
        Call[] bad = {
            y -> y.goes(0, 1), y -> y.reached(0, 0), y -> y.way(0, 0), y -> y.edge(0, 0), y -> y.mark(0, 1),
            y -> y.written(0, 0, 1), y -> y.rule(0, 0), y -> y.often(0, 1), y -> y.alike(0, 1), y -> y.turn(0),
            y -> y.over(0), y -> y.join(0, 1), y -> y.cut(0), y -> y.solve(0, 1), y -> y.undo(1), y -> y.odds(0, 0, 0),
            y -> y.mid(0, 0)};
        for (int k = 0; k < bad.length; k++) refused("BAD without GROUP, " + k, withRow(0, 1), BAD, bad[k]);
        Call[] state = {
            y -> y.order(0), y -> y.order(1), y -> y.shorten(), y -> y.keep(0), y -> y.lots(1, 1), y -> y.rank(2),
            y -> y.ways(2)};
        for (int k = 0; k < state.length; k++) refused("STATE without GROUP, " + k, withRow(0, 1), STATE, state[k]);
        found("18 UNLIKE without GROUP: no number is a SIGN", withRow(0, 1), UNLIKE, y -> y.spelt(0, 1));
        found("18 NOTHING without GROUP", withRow(0, 1), NOTHING, y -> y.spelt(1, 0));
        due("18 no SIGNS without GROUP", withRow(0).spelt(0, 1), 0);
        found("31 NOTHING without GROUP", withRow(0, 1), NOTHING, y -> y.on(0));
        due("29 no DEEDS without GROUP", fresh().undo(0), 0);
        due("29 no DEEDS without GROUP: nothing changes", withoutDeeds(), fresh().digest());
    }

    private static long withoutDeeds() {
        SubgroupWriter x = fresh();
        x.undo(0);
        return x.digest();
    }

    /** Each call with numbers at the ends of int, and beside 0: none throws, none that is refused changes anything. */
    private static void farNumbers() throws Exception {
        int[] ends = {MIN, MIN + 1, -1, 0, 1, MAX - 1, MAX};
        for (Method method : SubgroupWriter.class.getDeclaredMethods()) {
            if (!Modifier.isPublic(method.getModifiers()) || method.getParameterCount() == 0) continue;
            int[] few = method.getParameterCount() > 3 ? new int[] {MIN, 0, 1, MAX} : ends;
            int all = 1;
            for (int k = 0; k < method.getParameterCount(); k++) all *= few.length;
            for (int number = 0; number < all; number++) {
                Object[] values = new Object[method.getParameterCount()];
                for (int k = 0, rest = number; k < values.length; k++, rest /= few.length) values[k] = few[rest % few.length];
                farCall(method, values, fresh());
                farCall(method, values, with("a10b01=bb=bB", 1, 2));
            }
        }
    }

    private static void farCall(Method method, Object[] values, SubgroupWriter x) throws Exception {
        long[] before = stateOf(x);
        int answer = ((Integer) method.invoke(x, values)).intValue();
        if (answer == BAD || answer == FULL || answer == FINDING || answer == STATE || answer == SPENT) {
            same("refused: " + method.getName() + Arrays.toString(values) + ", changes nothing", stateOf(x), before);
        }
    }
}
