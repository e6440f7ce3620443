/** Promises 1 to 43, one method for each: answers worked out by hand, the edges that are named, wrong inputs. */
public final class PromisesTest {
    private static final int BAD = -1, FULL = -2, FINDING = -3, STATE = -4, SPENT = -6, NONE = -9;
    private static final int FAR = Integer.MAX_VALUE, LEAST = Integer.MIN_VALUE;
    /**
     * BROAD: EDGES 0, 4 are BRANCHES, 1, 3 TWINS (SIGNS 1, 3), 2 a SIGN (2), 5 a LOOP (SIGN 4).
     * RULES: 2; 1 3; 3 3; 2; 3 1; 2 4 1; 2; 4 4; 1 2 4.
     */
    private static final String THREE = "a120 b102 =aaa =bb =abab";
    /** EDGE 0 is a BRANCH, 1 a LOOP (SIGN 1), 2 a TWIN (2), 3 a LOOP (3). RULES: 1 eight times; 3 eight times. */
    private static final String LONG = "a10 b01 =bbbbbbbb";
    /** RULES: 1 (8 times); 3 1 1 1 1 1; 3 (8 times); 2 1 -2 3 3 3 3 3: none can be CUT or SOLVED. */
    private static final String STUCK = "a10 b01 =bbbbbbbb =abAbbbbb";
    /** RULES: 1 (8 times); 1 2 4 5; 4 (8 times); 4 5 3 1 2 -3. */
    private static final String WIDE = "a10b01c01=bbbbbbbb=bcabcA";
    private static int wrong = 0;

    private static void due(String what, long got, long want) {
        if (got == want) return;
        wrong++;
        System.out.println(what + " answered " + got + ", due is " + want);
    }

    private static SubgroupWriter fresh() {
        return new SubgroupWriter();
    }

    private static void type(SubgroupWriter x, int t, String text) {
        x.text(t, text.length());
        for (int k = 0; k < text.length(); k++) x.put(t, k, text.charAt(k));
    }

    private static SubgroupWriter of(String text) {
        SubgroupWriter x = fresh();
        type(x, 0, text);
        if (x.group(0) < 2) due("group of " + text, x.fault(0), NONE);
        return x;
    }

    private static void fill(SubgroupWriter x, int r, int... values) {
        x.row(r, values.length);
        for (int k = 0; k < values.length; k++) x.lay(r, k, values[k]);
    }

    private static void dueRow(String what, SubgroupWriter x, int r, int... values) {
        for (int k = 0; k < values.length; k++) {
            due(what + ": at " + k, x.at(r, k), 1);
            due(what + ": place " + k, x.asked(), values[k]);
        }
        due(what + ": behind", x.at(r, values.length), FINDING);
        due(what + ": beyond", x.finding(), 2);
    }

    private static void dueRule(String what, SubgroupWriter x, int i, int... signs) {
        for (int k = 0; k < signs.length; k++) {
            due(what + ": how many in " + i, x.rule(i, k), signs.length);
            due(what + ": sign " + k + " of " + i, x.asked(), signs[k]);
        }
        due(what + ": behind " + i, x.rule(i, signs.length), BAD);
    }

    private static void dueShare(String what, SubgroupWriter x, int answer, long upper, long lower) {
        due(what, answer, 1);
        due(what + " upper", x.upper(), upper);
        due(what + " lower", x.lower(), lower);
    }

    private static void dueFound(String what, SubgroupWriter x, int answer, int finding) {
        due(what, answer, FINDING);
        due(what + " finding", x.finding(), finding);
    }

    public static void main(String[] args) {
        promise1(); promise2(); promise3(); promise4(); promise5(); promise6(); promise7(); promise8(); promise9();
        promise10(); promise10Ends(); promise11(); promise12(); promise13(); promise14(); promise15(); promise16();
        promise17(); promise18(); promise19(); promise20(); promise21(); promise22(); promise23(); promise24();
        promise25(); promise26(); promise27(); promise28(); promise29(); promise29AtTheEnd(); promise30(); promise31(); promise32();
        promise32Idle(); promise33(); promise34(); promise35(); promise36(); promise37(); promise38And39();
        promise40(); promise41And42(); promise43(); sparesStay();
        if (wrong != 0) System.exit(1);
        System.out.println("all promises are kept");
    }

    private static void promise1() {
        SubgroupWriter x = fresh();
        for (int what = 0; what < 14; what++) due("1: count " + what, x.count(what), 0);
        for (int r = 0; r < 6; r++) dueFound("1: at", x, x.at(r, 0), 1);
        for (int t = 0; t < 4; t++) dueFound("1: fault", x, x.fault(t), 1);
        for (int k = 0; k < 3; k++) dueFound("1: on", x, x.on(k), 1);
        due("1: goes", x.goes(0, 1), BAD);
        due("1: reached", x.reached(0, 0), BAD);
        due("1: edge", x.edge(0, 0), BAD);
        due("1: rule", x.rule(0, 0), BAD);
        due("1: undo", x.undo(0), 0);
    }

    private static void promise2() {
        SubgroupWriter x = fresh();
        due("2: row", x.row(5, 40), 40);
        due("2: row", x.row(0, 0), 0);
        due("2: above 40", x.row(0, 41), BAD);
        due("2: far", x.row(0, FAR), BAD);
        due("2: no row", x.row(6, 3), BAD);
        due("2: no row", x.row(-1, 3), BAD);
        due("2: no row, below 0", x.row(6, -1), BAD);
        dueFound("2: below 0", x, x.row(1, -1), 5);
        dueFound("2: below 0", x, x.row(1, LEAST), 5);
        due("2: two rows", x.count(11), 2);
        fill(x, 2, 7, 8, 9);
        due("2: anew", x.row(2, 2), 2);
        dueRow("2: anew", x, 2, 0, 0);
        due("2: larger", x.row(2, 3), 3);
        dueRow("2: larger", x, 2, 0, 0, 0);
    }

    private static void promise3() {
        SubgroupWriter x = fresh();
        x.row(3, 2);
        due("3: lay", x.lay(3, 1, -5), 1);
        due("3: was", x.asked(), 0);
        due("3: lay", x.lay(3, 1, LEAST), 1);
        due("3: was", x.asked(), -5);
        dueRow("3", x, 3, 0, LEAST);
        due("3: no row", x.lay(6, 0, 1), BAD);
        due("3: no row", x.lay(-1, 0, 1), BAD);
        dueFound("3: missing", x, x.lay(4, 0, 1), 1);
        dueFound("3: missing, beyond", x, x.lay(4, 77, 1), 1);
        dueFound("3: beyond", x, x.lay(3, 2, 1), 2);
        dueFound("3: beyond", x, x.lay(3, -1, 1), 2);
        dueFound("3: beyond", x, x.lay(3, FAR, 1), 2);
    }

    private static void promise4() {
        SubgroupWriter x = fresh();
        fill(x, 0, 4, 5);
        due("4: at", x.at(0, 1), 1);
        due("4: told", x.asked(), 5);
        due("4: no row", x.at(6, 0), BAD);
        due("4: no row", x.at(LEAST, 0), BAD);
        dueFound("4: missing", x, x.at(5, 0), 1);
        dueFound("4: beyond", x, x.at(0, 2), 2);
        dueFound("4: beyond", x, x.at(0, -1), 2);
        due("4: told still", x.asked(), 5);
    }

    private static void promise5() {
        SubgroupWriter x = fresh();
        x.row(5, 3);
        due("5: tear", x.tear(5), 1);
        due("5: none", x.count(11), 0);
        dueFound("5: again", x, x.tear(5), 1);
        due("5: no row", x.tear(6), BAD);
        due("5: no row", x.tear(-1), BAD);
    }

    private static void promise6() {
        SubgroupWriter x = fresh();
        fill(x, 0, 1, 2, 3, 4, 5);
        fill(x, 1, 9, 9, 9);
        due("6: copy", x.copy(0, 1, 1, 0, 2), 1);
        dueRow("6: copy", x, 1, 2, 3, 9);
        due("6: on itself, up", x.copy(0, 0, 0, 1, 4), 1);
        dueRow("6: up", x, 0, 1, 1, 2, 3, 4);
        due("6: on itself, down", x.copy(0, 2, 0, 0, 3), 1);
        dueRow("6: down", x, 0, 2, 3, 4, 3, 4);
        due("6: none at the end", x.copy(0, 5, 1, 3, 0), 1);
        dueFound("6: behind the end", x, x.copy(0, 6, 1, 0, 0), 2);
        dueFound("6: too many", x, x.copy(0, 4, 1, 0, 2), 2);
        dueFound("6: too many there", x, x.copy(0, 0, 1, 1, 3), 2);
        dueFound("6: below", x, x.copy(0, -1, 1, 0, 1), 2);
        dueFound("6: below there", x, x.copy(0, 0, 1, -1, 1), 2);
        dueFound("6: around", x, x.copy(0, 1, 1, 0, FAR), 2);
        dueFound("6: missing", x, x.copy(2, 0, 1, 0, 1), 1);
        dueFound("6: missing there", x, x.copy(0, 0, 2, 0, 1), 1);
        dueFound("6: size ahead of missing", x, x.copy(2, 0, 3, 0, -1), 5);
        due("6: no row", x.copy(6, 0, 0, 0, 1), BAD);
        due("6: no row there", x.copy(0, 0, -1, 0, -1), BAD);
        dueRow("6: as it was", x, 1, 2, 3, 9);
    }

    private static void promise7() {
        SubgroupWriter x = fresh();
        fill(x, 0, 3, 4, 4);
        due("7: mean", x.mean(0), 1);
        due("7: cut", x.asked(), 3);
        fill(x, 0, -3, -4, -4);
        x.mean(0);
        due("7: cut towards 0", x.asked(), -3);
        fill(x, 0, FAR, FAR, FAR);
        x.mean(0);
        due("7: great ones", x.asked(), FAR);
        fill(x, 0, LEAST, LEAST);
        x.mean(0);
        due("7: least ones", x.asked(), LEAST);
        x.row(1, 0);
        dueFound("7: nought", x, x.mean(1), 4);
        dueFound("7: missing", x, x.mean(2), 1);
        due("7: no row", x.mean(6), BAD);
        due("7: no row", x.mean(-1), BAD);
    }

    private static void promise8() {
        SubgroupWriter x = fresh();
        due("8: text", x.text(3, 60), 60);
        due("8: text", x.text(0, 0), 0);
        due("8: above 60", x.text(0, 61), BAD);
        due("8: no text", x.text(4, 1), BAD);
        due("8: no text, below 0", x.text(-1, -1), BAD);
        dueFound("8: below 0", x, x.text(1, -1), 5);
        due("8: two", x.count(12), 2);
        due("8: a blank", x.put(3, 59, 65), 1032);
        x.text(3, 60);
        due("8: a blank again", x.put(3, 59, 65), 1032);
    }

    private static void promise9() {
        SubgroupWriter x = fresh();
        x.text(2, 2);
        due("9: put", x.put(2, 1, 200), 1032);
        due("9: cut", x.put(2, 1, 256 + 65), 1000 - 56);
        due("9: cut", x.put(2, 1, -129), 1065);
        due("9: cut", x.put(2, 1, 0), 1127);
        due("9: no text", x.put(4, 0, 0), BAD);
        due("9: no text", x.put(-1, 0, 0), BAD);
        dueFound("9: missing", x, x.put(1, 0, 0), 1);
        dueFound("9: beyond", x, x.put(2, 2, 0), 2);
        dueFound("9: beyond", x, x.put(2, -1, 0), 2);
    }

    private static void dueFault(String text, int place) {
        SubgroupWriter x = fresh();
        type(x, 1, text);
        due("10: fault of '" + text + "'", x.fault(1), place);
        due("10: group of '" + text + "'", x.group(1) == STATE ? 1 : 0, place == NONE ? 0 : 1);
    }

    private static void promise10() {
        dueFault(THREE, NONE);
        dueFault("  a120b102=aaa=bb=abab  ", NONE);
        dueFault("a10", NONE);
        dueFault("a10b01c10=aA=bbB=Ab", 16);
        dueFault("b10", 0);
        dueFault("  =aa", 2);
        dueFault("A10", 0);
        dueFault("a b10", 1);
        dueFault("ab10", 1);
        dueFault("a0 b10", 2);
        dueFault("a9 b10", 2);
        dueFault("a1=aa", 2);
        dueFault("a12 ", 2);
        dueFault("a: b10", 1);
        dueFault("a/ b10", 1);
        dueFault("a9012", 1);
        dueFault("a00", 2);
        dueFault("a0123", 5);
        dueFault("a12340", NONE);
        dueFault("a012345", 6);
        dueFault("a501234", 1);
        dueFault("a120345", 6);
        dueFault("a12034", 6);
        dueFault("a10 0", 4);
        dueFault("a10 a10", 4);
        dueFault("a10 c10", 4);
        dueFault("a10 b011", 7);
        dueFault("a10 b0 1", 6);
        dueFault("a10 b02", 6);
        dueFault("a10 b00", 6);
        dueFault("a10 b0", 6);
        dueFault("a10 b", 5);
        dueFault("a10b01c01d01", 9);
        dueFault("a10b01c01a10", 9);
        dueFault("a10\u0009", 3);
        dueFault("a10" + (char) 160, 3);
        dueFault("a10" + (char) 0, 3);
    }

    private static void promise10Ends() {
        dueFault("a10=aa", NONE);
        dueFault("a10=", 4);
        dueFault("a10= aa", 4);
        dueFault("a10==aa", 4);
        dueFault("a10=0", 4);
        dueFault("a10=D", 4);
        dueFault("a10=b", 4);
        dueFault("a10=aB", 5);
        dueFault("a10=aC", 5);
        dueFault("a10=aaaaaaaa", NONE);
        dueFault("a10=aaaaaaaaa", 12);
        dueFault("a10=aaaaaaaab", 12);
        dueFault("a10=aaaaaaaa a", 13);
        dueFault("a10=a", 3);
        dueFault("a10 =aaa=aa", 4);
        dueFault("a10=aa =a5", 7);
        dueFault("a10=aa5", 6);
        dueFault("a10=aad", 6);
        dueFault("a10=aa=aa=aa=aa", 12);
        dueFault("a10=aa b01", 7);
        dueFault("a10b01=bb=aBa", NONE);
        dueFault("a120=aaa=AAA=aA", NONE);
        dueFault("a120=aA=aAa", 7);
        dueFault("a01", 3);
        dueFault("a01 ", 4);
        dueFault("a102=aa", 7);
        dueFault("a102b120", NONE);
        dueFault("a102=a", 4);
        dueFault("a01=a", 5);
        dueFault("", 0);
        dueFault("    ", 4);
        dueFault("a", 1);
        SubgroupWriter x = fresh();
        due("10: no text", x.fault(4), BAD);
        due("10: no text", x.fault(-1), BAD);
        dueFound("10: missing", x, x.fault(0), 1);
    }

    private static void promise11() {
        SubgroupWriter x = of(THREE);
        due("11: a rule", x.count(6), 9);
        x.order(2);
        x.keep(0);
        type(x, 1, "a12340");
        due("11: group", x.group(1), 5);
        due("11: order", x.count(3), 0);
        due("11: deeds", x.count(8), 0);
        due("11: kept", x.count(13), 0);
        due("11: generators", x.count(1), 1);
        due("11: rules", x.count(6), 0);
        due("11: signs", x.count(4), 1);
        x.put(1, 1, 'z');
        due("11: the text is read no more", x.goes(0, 1), 1);
        long before = x.digest();
        due("11: a fault", x.group(1), STATE);
        due("11: as it was", x.digest(), before);
        due("11: no text", x.group(4), BAD);
        due("11: no text", x.group(-1), BAD);
        dueFound("11: missing", x, x.group(3), 1);
    }

    private static void promise12() {
        SubgroupWriter x = of(THREE);
        int[] a = {1, 2, 0};
        int[] back = {2, 0, 1};
        int[] b = {1, 0, 2};
        for (int p = 0; p < 3; p++) {
            due("12: a", x.goes(p, 1), a[p]);
            due("12: A", x.goes(p, -1), back[p]);
            due("12: b", x.goes(p, 2), b[p]);
            due("12: B", x.goes(p, -2), b[p]);
        }
        due("12: c", x.goes(0, 3), BAD);
        due("12: C", x.goes(0, -3), BAD);
        due("12: none", x.goes(0, 0), BAD);
        due("12: far", x.goes(0, LEAST), BAD);
        due("12: no point", x.goes(3, 1), BAD);
        due("12: no point", x.goes(-1, 1), BAD);
    }

    private static void duePoint(String what, SubgroupWriter x, int p, int... told) {
        for (int k = 0; k < 4; k++) {
            due(what, x.reached(p, k), 1);
            due(what + ": point " + p + ", " + k, x.asked(), told[k]);
        }
    }

    private static void promise13() {
        SubgroupWriter x = of("a12340 b10234");
        duePoint("13 broad", x, 0, NONE, NONE, 0, 0);
        duePoint("13 broad", x, 1, 0, 1, 1, 1);
        duePoint("13 broad", x, 2, 1, 1, 2, 3);
        duePoint("13 broad", x, 3, 4, -1, 2, 4);
        duePoint("13 broad", x, 4, 0, -1, 1, 2);
        x.order(1);
        duePoint("13 late", x, 0, NONE, NONE, 0, 0);
        duePoint("13 late", x, 1, 0, -2, 1, 1);
        duePoint("13 late", x, 4, 0, -1, 1, 2);
        duePoint("13 late", x, 2, 1, 1, 2, 3);
        duePoint("13 late", x, 3, 4, -1, 2, 4);
        x.order(2);
        for (int p = 1; p < 5; p++) duePoint("13 deep", x, p, p - 1, 1, p, p);
        due("13: no point", x.reached(5, 0), BAD);
        due("13: no point", x.reached(-1, 0), BAD);
        due("13: what", x.reached(0, 4), BAD);
        due("13: what", x.reached(0, -1), BAD);
        // a dead end, from which DEEP goes back to where it came from
        SubgroupWriter y = of("a1032 b2103 c0123");
        y.order(2);
        duePoint("13 deep", y, 1, 0, 1, 1, 1);
        duePoint("13 deep", y, 2, 0, 2, 1, 2);
        duePoint("13 deep", y, 3, 2, 1, 2, 3);
    }

    private static void promise14() {
        SubgroupWriter x = of("a12340 b10234");
        fill(x, 5, 1, 2, 3, 4, 5, 6);
        due("14: way", x.way(3, 5), 2);
        dueRow("14", x, 5, -1, -1);
        due("14: none", x.way(0, 5), 0);
        dueRow("14", x, 5);
        x.order(2);
        due("14: deep", x.way(4, 0), 4);
        dueRow("14: deep", x, 0, 1, 1, 1, 1);
        x.order(1);
        due("14: late", x.way(2, 0), 2);
        dueRow("14: late", x, 0, -2, 1);
        due("14: no point", x.way(5, 0), BAD);
        due("14: no row", x.way(0, 6), BAD);
        due("14: no row", x.way(0, -1), BAD);
        due("14: no group", fresh().way(0, 0), BAD);
    }

    private static void dueEdge(SubgroupWriter x, int e, int... told) {
        for (int k = 0; k < 5; k++) {
            due("15: edge", x.edge(e, k), 1);
            due("15: edge " + e + ", " + k, x.asked(), told[k]);
        }
    }

    private static void promise15() {
        SubgroupWriter x = of(THREE);
        dueEdge(x, 0, 1, 0, 1, 0, 0);
        dueEdge(x, 1, 4, 0, 1, 1, 1);
        dueEdge(x, 2, 2, 1, 2, 2, 1);
        dueEdge(x, 3, 4, 1, 0, 3, 1);
        dueEdge(x, 4, 1, 2, 0, 0, 0);
        dueEdge(x, 5, 3, 2, 2, 4, 1);
        x.solve(0, 2);
        dueEdge(x, 2, 2, 1, 2, 2, 0);
        x.order(1);
        dueEdge(x, 3, 1, 1, 0, 0, 0);
        dueEdge(x, 1, 4, 0, 1, 2, 1);
        dueEdge(x, 0, 4, 0, 1, 1, 1);
        due("15: no edge", x.edge(6, 0), BAD);
        due("15: no edge", x.edge(-1, 0), BAD);
        due("15: what", x.edge(0, 5), BAD);
        due("15: what", x.edge(0, -1), BAD);
    }

    private static void dueMark(SubgroupWriter x, int e, int... told) {
        for (int kind = 1; kind <= 4; kind++) {
            if (told[kind - 1] == NONE) {
                dueFound("16: edge " + e + " of kind " + kind, x, x.mark(e, kind), 3);
            } else {
                due("16: mark " + e + ", " + kind, x.mark(e, kind), 1);
                due("16: told " + e + ", " + kind, x.asked(), told[kind - 1]);
            }
        }
    }

    private static void promise16() {
        SubgroupWriter x = of(THREE);
        dueMark(x, 0, 1, NONE, NONE, NONE);
        dueMark(x, 1, NONE, 2, NONE, 0);
        dueMark(x, 2, NONE, 3, NONE, NONE);
        dueMark(x, 3, NONE, 2, NONE, 0);
        dueMark(x, 4, 2, NONE, NONE, NONE);
        dueMark(x, 5, NONE, 3, 1, NONE);
        due("16: kind 0", x.mark(0, 0), BAD);
        due("16: kind 5", x.mark(0, 5), BAD);
        due("16: no edge", x.mark(6, 1), BAD);
        due("16: no edge", x.mark(-1, 1), BAD);
        // two LOOPS at each POINT; the TWIN's BRANCH lies at a POINT reached by A
        SubgroupWriter y = of("a01 b01 c10");
        dueMark(y, 0, NONE, 1, 2, NONE);
        dueMark(y, 4, NONE, 3, 2, NONE);
        dueMark(y, 5, NONE, 2, NONE, 2);
        SubgroupWriter z = of("a120 b201");
        dueMark(z, 4, 2, NONE, NONE, NONE);
        dueMark(z, 1, NONE, 2, NONE, 4);
    }

    private static void promise17() {
        SubgroupWriter x = of(THREE);
        fill(x, 0, 2, 1, -2, 1);
        // from 0: b is SIGN 1 to 1, a SIGN 2 to 2, B SIGN 4 below 0 to 2, a a BRANCH to 0
        due("17: written", x.written(0, 0, 1), 3);
        due("17: to", x.asked(), 0);
        dueRow("17", x, 1, 1, 2, -4);
        // from 1: b SIGN 3 to 0, a a BRANCH to 1, B SIGN 1 below 0 to 0, a a BRANCH to 1
        due("17: from 1", x.written(1, 0, 0), 2);
        due("17: to", x.asked(), 1);
        dueRow("17: the same row", x, 0, 3, -1);
        fill(x, 0, 2, -1, 1, -2, 1, 2);
        due("17: reduced", x.written(2, 0, 3), 1);
        due("17: to", x.asked(), 1);
        dueRow("17: reduced", x, 3, 1);
        x.row(0, 0);
        due("17: none", x.written(2, 0, 3), 0);
        due("17: stays", x.asked(), 2);
        long before = x.digest();
        due("17: no point", x.written(3, 0, 1), BAD);
        due("17: no row", x.written(0, 6, 1), BAD);
        due("17: no row", x.written(0, 0, -1), BAD);
        dueFound("17: missing", x, x.written(0, 4, 1), 1);
        due("17: as it was", x.digest(), before);
        for (int v : new int[] {0, 3, -3, FAR, LEAST}) {
            fill(x, 0, 1, v);
            dueFound("17: unlike", x, x.written(0, 0, 1), 3);
        }
        due("17: no group", fresh().written(0, 0, 0), BAD);
    }

    private static void promise18() {
        SubgroupWriter x = of(THREE);
        fill(x, 0, 2);
        // EDGE 2: WAY of 1 is a, then a, WAY of 2 (A) the other way
        due("18: spelt", x.spelt(0, 1), 3);
        dueRow("18", x, 1, 1, 1, 1);
        fill(x, 0, -4, 1);
        // EDGE 5 below 0: A B a; EDGE 1: b A
        due("18: two", x.spelt(0, 0), 5);
        dueRow("18: the same row", x, 0, -1, -2, 1, 2, -1);
        fill(x, 0, 3, -3);
        due("18: reduced", x.spelt(0, 1), 0);
        x.solve(0, 2);
        fill(x, 0, -2);
        due("18: not left", x.spelt(0, 1), 3);
        dueRow("18: not left", x, 1, -1, -1, -1);
        dueFound("18: missing", x, x.spelt(5, 1), 1);
        due("18: no row", x.spelt(6, 1), BAD);
        due("18: no row", x.spelt(0, -1), BAD);
        for (int v : new int[] {0, 5, -5, FAR, LEAST}) {
            fill(x, 0, 1, v);
            dueFound("18: unlike", x, x.spelt(0, 1), 3);
        }
        promise18Spent();
    }

    private static void promise18Spent() {
        SubgroupWriter x = of(THREE);
        // SIGN 4 is A b a: n of them are A, n times b, a
        x.row(0, 39);
        for (int k = 0; k < 39; k++) x.lay(0, k, 4);
        fill(x, 1, 7);
        due("18: 41", x.spelt(0, 1), SPENT);
        dueRow("18: as it was", x, 1, 7);
        x.lay(0, 38, 9);
        dueFound("18: unlike ahead of spent", x, x.spelt(0, 1), 3);
        x.row(0, 38);
        for (int k = 0; k < 38; k++) x.lay(0, k, 4);
        due("18: 40", x.spelt(0, 1), 40);
        SubgroupWriter y = fresh();
        fill(y, 0, 1);
        dueFound("18: no group", y, y.spelt(0, 0), 3);
    }

    private static void promise19() {
        SubgroupWriter x = of(THREE);
        int[][] rules = {{2}, {1, 3}, {3, 3}, {2}, {3, 1}, {2, 4, 1}, {2}, {4, 4}, {1, 2, 4}};
        for (int i = 0; i < 9; i++) dueRule("19", x, i, rules[i]);
        due("19: no rule", x.rule(9, 0), BAD);
        due("19: no rule", x.rule(-1, 0), BAD);
        due("19: below", x.rule(0, -1), BAD);
        x.order(1);
        // LATE: 1 by B, 2 by A: BRANCHES are EDGES 3, 4; SIGNS 1 (0 a), 2 (0 b), 3 (1 a), 4 (2 b)
        dueRule("19: late", x, 0, 1, 3);
        dueRule("19: late", x, 1, 2);
        dueRule("19: late", x, 2, 1, 1);
        dueRule("19: late", x, 5, 3, 4, 2);
        // a RELATOR that is not REDUCED
        SubgroupWriter y = of("a10 b01 =bBaa");
        dueRule("19: reduced", y, 0, 2);
    }

    private static void promise20() {
        SubgroupWriter x = of(THREE);
        due("20: often", x.often(2, 3), 2);
        due("20: less", x.asked(), 2);
        x.over(2);
        due("20: over", x.often(2, 3), 2);
        due("20: over, less", x.asked(), -2);
        due("20: not in it", x.often(2, 1), 0);
        due("20: none", x.asked(), 0);
        SubgroupWriter y = of(STUCK);
        due("20: both ways", y.often(3, 2), 2);
        due("20: both ways, less", y.asked(), 0);
        due("20: five", y.often(3, 3), 5);
        x.solve(0, 2);
        due("20: not left", x.often(0, 2), BAD);
        due("20: no sign", x.often(0, 0), BAD);
        due("20: no sign", x.often(0, 5), BAD);
        due("20: below 0", x.often(0, -1), BAD);
        due("20: far", x.often(0, FAR), BAD);
        due("20: no rule", x.often(8, 1), BAD);
        due("20: no rule", x.often(-1, 1), BAD);
    }

    private static void promise21() {
        SubgroupWriter x = of(THREE);
        due("21: the same", x.alike(0, 3), 1);
        due("21: turned", x.alike(1, 4), 1);
        due("21: turned", x.alike(5, 8), 1);
        due("21: unlike", x.alike(2, 7), 0);
        due("21: unlike", x.alike(0, 1), 0);
        x.over(5);
        due("21: over", x.alike(5, 8), 1);
        due("21: over", x.alike(8, 5), 1);
        x.turn(5);
        due("21: over and turned", x.alike(5, 8), 1);
        due("21: itself", x.alike(1, 1), BAD);
        due("21: no rule", x.alike(0, 9), BAD);
        due("21: no rule", x.alike(-1, 0), BAD);
        SubgroupWriter y = of("a10 b01 =aA =bB");
        due("21: of no signs", y.alike(0, 3), 1);
        // 3; 1; 2 1 -2; 3: nothing is REDUCED
        SubgroupWriter z = of("a10b01=abA=b");
        due("21: not reduced", z.alike(1, 2), 0);
        due("21: the same", z.alike(0, 3), 1);
    }

    private static void promise22() {
        SubgroupWriter x = of(THREE);
        due("22: it is so", x.order(0), STATE);
        due("22: no order", x.order(3), BAD);
        due("22: no order", x.order(-1), BAD);
        x.shorten();
        due("22: order", x.order(2), 9);
        due("22: told", x.count(3), 2);
        due("22: all left", x.count(5), 15);
        due("22: a deed", x.count(8), 2);
        for (int k = 2; k < 20; k++) due("22: order", x.order(k % 2), 9);
        due("22: full", x.order(2), FULL);
        due("22: it is so ahead of full", x.order(x.count(3)), STATE);
        due("22: no order ahead of full", x.order(3), BAD);
        due("22: no group", fresh().order(1), STATE);
        due("22: no group, no order", fresh().order(3), BAD);
    }

    private static void promise23() {
        SubgroupWriter x = of(THREE);
        due("23: turn", x.turn(5), 3);
        dueRule("23", x, 5, 4, 1, 2);
        due("23: a deed", x.count(8), 1);
        due("23: one sign", x.turn(0), 1);
        SubgroupWriter y = of("a10b01=abAbbbbb");
        dueRule("23", y, 1, 2, 1, -2, 3, 3, 3, 3, 3);
        y.turn(1);
        dueRule("23", y, 1, 1, -2, 3, 3, 3, 3, 3, 2);
        SubgroupWriter z = of("a10b01=abbA");
        dueRule("23", z, 1, 2, 1, 1, -2);
        due("23: reduced", z.turn(1), 2);
        dueRule("23: reduced", z, 1, 1, 1);
        SubgroupWriter w = of("a10b01=bB");
        due("23: no signs", w.turn(0), STATE);
        due("23: no rule", x.turn(9), BAD);
        due("23: no rule", x.turn(-1), BAD);
        for (int k = 2; k < 20; k++) x.turn(5);
        due("23: full", x.turn(5), FULL);
        due("23: no rule ahead of full", x.turn(9), BAD);
    }

    private static void promise24() {
        SubgroupWriter x = of(THREE);
        due("24: over", x.over(5), 3);
        dueRule("24", x, 5, -1, -4, -2);
        due("24: again", x.over(5), 3);
        dueRule("24: again", x, 5, 2, 4, 1);
        due("24: deeds", x.count(8), 2);
        due("24: no signs", of("a10b01=bB").over(1), STATE);
        due("24: no rule", x.over(9), BAD);
        due("24: no rule", x.over(-1), BAD);
        for (int k = 2; k < 20; k++) x.over(0);
        due("24: full", x.over(5), FULL);
    }

    private static void promise25() {
        SubgroupWriter x = of(THREE);
        due("25: join", x.join(1, 5), 5);
        dueRule("25", x, 1, 1, 3, 2, 4, 1);
        dueRule("25: the other stays", x, 5, 2, 4, 1);
        x.over(5);
        due("25: reduced", x.join(1, 5), 2);
        dueRule("25: reduced", x, 1, 1, 3);
        due("25: itself", x.join(1, 1), BAD);
        due("25: no rule", x.join(9, 0), BAD);
        due("25: no rule", x.join(0, -1), BAD);
        SubgroupWriter y = of(LONG);
        due("25: 16", y.join(0, 1), 16);
        due("25: 24", y.join(0, 1), SPENT);
        due("25: a deed", y.count(8), 1);
        for (int k = 1; k < 20; k++) y.turn(1);
        due("25: spent ahead of full", y.join(0, 1), SPENT);
        y.undo(0);
        for (int k = 0; k < 20; k++) y.turn(1);
        due("25: full", y.join(0, 1), FULL);
    }

    private static void promise26() {
        SubgroupWriter x = of(THREE);
        due("26: can't be", x.cut(0), STATE);
        due("26: alike a later one", x.cut(1), STATE);
        due("26: cut", x.cut(3), 8);
        dueRule("26: the next", x, 3, 3, 1);
        due("26: cut, turned", x.cut(3), 7);
        dueRule("26: the next", x, 3, 2, 4, 1);
        due("26: the first stays", x.rule(0, 0), 1);
        due("26: no rule", x.cut(7), BAD);
        due("26: no rule", x.cut(-1), BAD);
        SubgroupWriter y = of("a10b01=bB");
        due("26: no signs", y.cut(0), 1);
        due("26: no signs", y.cut(0), 0);
        due("26: none left", y.cut(0), BAD);
        SubgroupWriter z = of(THREE);
        for (int k = 0; k < 20; k++) z.turn(0);
        due("26: full", z.cut(3), FULL);
        due("26: can't be ahead of full", z.cut(0), STATE);
    }

    private static void promise27() {
        SubgroupWriter x = of(THREE);
        due("27: not just once", x.solve(2, 3), STATE);
        due("27: not in it", x.solve(0, 1), STATE);
        // 2 4 1: SIGN 4 is 2 over, 1 over
        due("27: solve", x.solve(5, 4), 8);
        dueRule("27: above", x, 6, -2, -1, -2, -1);
        // 1 2 4 comes to 1 2 -2 -1: none
        due("27: reduced", x.rule(7, 0), BAD);
        due("27: left", x.count(5), 7);
        due("27: all there were", x.count(4), 4);
        due("27: not left", x.solve(1, 4), BAD);
        due("27: no sign", x.solve(1, 0), BAD);
        due("27: no sign", x.solve(1, 5), BAD);
        due("27: below 0", x.solve(1, -1), BAD);
        due("27: no rule", x.solve(8, 1), BAD);
        due("27: no rule", x.solve(-1, 1), BAD);
        promise27Below();
        promise27Refused();
    }

    private static void promise27Below() {
        SubgroupWriter x = of(THREE);
        // -1 -4 -2: SIGN 4 is -2 and behind it -1
        x.over(5);
        x.over(7);
        due("27: below 0", x.solve(5, 4), 8);
        dueRule("27: put over", x, 6, 1, 2, 1, 2);
        // a RULE with SIGNS on both sides: 2 4 1 joined with 3 3: 4 is 2 over, and 1 3 3 over
        SubgroupWriter y = of(THREE);
        y.join(5, 2);
        dueRule("27: joined", y, 5, 2, 4, 1, 3, 3);
        due("27: both sides", y.solve(5, 4), 8);
        dueRule("27: both sides", y, 6, -2, -3, -3, -1, -2, -3, -3, -1);
        dueRule("27: in the middle", y, 7, 1, -3, -3, -1);
    }

    private static void promise27Refused() {
        SubgroupWriter x = of(STUCK);
        due("27: spent", x.solve(1, 3), SPENT);
        due("27: spent", x.solve(3, 1), SPENT);
        due("27: twice", x.solve(3, 2), STATE);
        for (int k = 0; k < 20; k++) x.turn(0);
        due("27: spent ahead of full", x.solve(1, 3), SPENT);
        SubgroupWriter y = of(THREE);
        for (int k = 0; k < 20; k++) y.turn(0);
        due("27: full", y.solve(0, 2), FULL);
        due("27: state ahead of full", y.solve(0, 1), STATE);
        // a RULE that would have 16 just fits
        SubgroupWriter z = of("a10b01c01=bbbbbbbb=bcabA");
        dueRule("27", z, 1, 1, 2, 4);
        due("27: 16", z.solve(1, 1), 3);
        due("27: 16 signs", z.rule(0, 15), 16);
    }

    private static void promise28() {
        SubgroupWriter x = of(THREE);
        due("28: shorten", x.shorten(), 8);
        due("28: one left", x.count(6), 1);
        dueRule("28", x, 0, 4, 4);
        due("28: left", x.count(5), 8);
        due("28: one deed", x.count(8), 1);
        due("28: none can be", x.shorten(), STATE);
        due("28: stuck", of(STUCK).shorten(), STATE);
        due("28: no group", fresh().shorten(), STATE);
        due("28: no rules", of("a10").shorten(), STATE);
        SubgroupWriter y = of(THREE);
        for (int k = 0; k < 20; k++) y.turn(0);
        due("28: full", y.shorten(), FULL);
        SubgroupWriter z = of(STUCK);
        for (int k = 0; k < 20; k++) z.turn(0);
        due("28: none can be ahead of full", z.shorten(), STATE);
        // RULE 1 for SIGN 2 (it is -1 -5 -4), for by SIGN 1 RULE 0 would have 24
        SubgroupWriter w = of(WIDE);
        due("28: the least that fits", w.shorten(), 1);
        due("28: the least that fits", w.count(5), 31 - 2);
        due("28: three left", w.count(6), 3);
        dueRule("28: the least that fits", w, 2, 4, 5, 3, -5, -4, -3);
        // RULES: 1 (8 times); 2 1 (7 times), joined 2 1 (15 times); 4 (8 times); 5 4 (7 times)
        SubgroupWriter u = of("a10b01c01=bbbbbbbb=cbbbbbbb");
        due("28: joined", u.join(1, 0), 16);
        due("28: one of 16 too", u.shorten(), 2);
        due("28: one of 16 too", u.count(5), 31 - 2 - 16);
        // the shorter RULES first, though they come later
        SubgroupWriter v = of("a10b01c01=bcbc=c");
        dueRule("28", v, 0, 1, 2, 1, 2);
        due("28: by how many", v.shorten(), 2);
        dueRule("28: by how many", v, 0, 1, 1);
        dueRule("28: by how many", v, 1, 4, 4);
    }

    private static void promise29() {
        SubgroupWriter x = of(THREE);
        long start = x.digest();
        x.turn(5);
        x.over(1);
        long two = x.digest();
        x.join(1, 5);
        x.cut(3);
        x.solve(0, 2);
        x.order(1);
        x.shorten();
        x.lots(3, 5);
        due("29: ten", x.count(8), 10);
        due("29: undo", x.undo(9), 1);
        due("29: undo", x.undo(2), 7);
        due("29: as it was", x.digest(), two);
        due("29: from the end on", x.undo(2), 0);
        due("29: as it was", x.digest(), two);
        due("29: beyond the end", x.undo(3), BAD);
        due("29: as it was", x.digest(), two);
        due("29: below", x.undo(-1), BAD);
        due("29: far", x.undo(FAR), BAD);
        due("29: all", x.undo(0), 2);
        due("29: as it was", x.digest(), start);
        due("29: no deeds", x.undo(0), 0);
        due("29: as it was", x.digest(), start);
        due("29: no deeds, beyond", x.undo(1), BAD);
        due("29: no group", fresh().undo(0), 0);
        due("29: no group, beyond", fresh().undo(1), BAD);
        due("29: no group, below", fresh().undo(-1), BAD);
        x.order(2);
        x.undo(0);
        due("29: the order too", x.count(3), 0);
        due("29: the tree too", x.digest(), start);
    }

    private static void promise29AtTheEnd() {
        SubgroupWriter x = fresh();
        due("29: no group", x.undo(0), 0);
        for (int what = 0; what < 14; what++) due("29: no group, count " + what, x.count(what), 0);
        type(x, 0, "a10 =aa");
        due("29: group", x.group(0), 2);
        due("29: order", x.order(1), 2);
        long one = x.digest();
        due("29: behind one deed", x.undo(1), 0);
        due("29: behind one deed, further", x.undo(2), BAD);
        due("29: the deed stays", x.count(8), 1);
        due("29: its order stays", x.count(3), 1);
        due("29: all stays", x.digest(), one);
        due("29: the deed", x.undo(0), 1);
        due("29: its order is gone", x.count(3), 0);
        x.lots(10, 3);
        x.lots(10, 4);
        long twenty = x.digest();
        due("29: behind twenty", x.undo(20), 0);
        due("29: behind twenty, further", x.undo(21), BAD);
        due("29: twenty stay", x.digest(), twenty);
        due("29: no finding", x.finding(), 0);
    }

    private static void promise30() {
        SubgroupWriter x = of(THREE);
        due("30: keep", x.keep(2), 0);
        x.turn(5);
        due("30: keep", x.keep(0), 1);
        due("30: kept", x.count(13), 2);
        due("30: over", x.keep(2), 1);
        due("30: kept", x.count(13), 2);
        due("30: no place", x.keep(3), BAD);
        due("30: no place", x.keep(-1), BAD);
        due("30: no group", fresh().keep(0), STATE);
        due("30: no group, no place", fresh().keep(3), BAD);
    }

    private static void promise31() {
        SubgroupWriter x = of(THREE);
        x.turn(5);
        x.solve(0, 2);
        x.keep(1);
        long before = x.digest();
        x.order(2);
        x.shorten();
        due("31: on", x.on(1), 2);
        due("31: as it was", x.digest(), before);
        due("31: its deeds can be undone", x.undo(1), 1);
        dueRule("31: its rules", x, 5, 4, 1, 2);
        due("31: its signs", x.count(5), 15);
        due("31: kept still", x.on(1), 2);
        due("31: as it was", x.digest(), before);
        dueFound("31: missing", x, x.on(0), 1);
        due("31: no place", x.on(3), BAD);
        due("31: no place", x.on(-1), BAD);
        SubgroupWriter y = fresh();
        dueFound("31: no group", y, y.on(0), 1);
        x.group(0);
        dueFound("31: another group", x, x.on(1), 1);
    }

    private static int next(int number) {
        return (int) (48271L * number % 2147483647L);
    }

    /** One lot on one object, the DEED itself on another one. */
    private static void dueLot(int seed) {
        SubgroupWriter x = of(THREE);
        SubgroupWriter y = of(THREE);
        int number = next(seed);
        int i = number / 64 % 9;
        int kind = number / 8 % 6;
        int done = 0;
        switch (kind) {
            case 0: done = y.turn(i); break;
            case 1: done = y.over(i); break;
            case 2: done = y.join(i, (i + 1) % 9); break;
            case 3: done = y.cut(i); break;
            case 4: done = y.solve(i, new int[] {2, 1, 0, 2, 1, 1, 2, 0, 1}[i]); break;
            default: done = y.order(1); break;
        }
        due("32: rules by " + seed, x.lots(1, seed), y.count(6));
        due("32: a deed by " + seed, x.count(8), 1);
        for (int what = 3; what < 8; what++) due("32: count " + what + " by " + seed, x.count(what), y.count(what));
        for (int r = 0; r < y.count(6); r++) {
            for (int k = 0; k < 16; k++) {
                int size = y.rule(r, k);
                due("32: rule " + r + " by " + seed, x.rule(r, k), size);
                if (size > 0) due("32: sign of " + r + " by " + seed, x.asked(), y.asked());
            }
        }
        if (done >= 0) due("32: all by " + seed, x.digest(), y.digest());
    }

    private static void promise32() {
        for (int k = 1; k <= 100; k++) dueLot(21 * k);
        dueLot(2147483646);
        dueLot(1);
        SubgroupWriter x = of(THREE);
        due("32: one ahead of the other", x.lots(2, 77), x.count(6));
        long both = x.digest();
        x.undo(0);
        x.lots(1, 77);
        x.lots(1, next(77));
        due("32: one ahead of the other", x.digest(), both);
        x.undo(0);
        due("32: ten", x.lots(10, 5), x.count(6));
        due("32: ten", x.count(8), 10);
        due("32: twenty", x.lots(10, 6), x.count(6));
        due("32: full", x.lots(1, 6), FULL);
        x.undo(15);
        due("32: full with six", x.lots(6, 6), FULL);
        due("32: five", x.lots(5, 6), x.count(6));
        due("32: none", x.lots(0, 6), BAD);
        due("32: eleven", x.lots(11, 6), BAD);
        due("32: no seed", x.lots(1, 0), BAD);
        due("32: no seed", x.lots(1, -1), BAD);
        due("32: no seed", x.lots(1, FAR), BAD);
        due("32: no group", fresh().lots(1, 1), STATE);
        due("32: no group, none", fresh().lots(0, 1), BAD);
    }

    private static void promise32Idle() {
        SubgroupWriter x = of("a12340 b10234");
        for (int seed = 1; seed < 2000; seed += 37) {
            due("32: without rules", x.lots(1, seed), 0);
            due("32: a deed", x.count(8), 1);
            due("32: ordered or nothing", x.count(3), next(seed) / 8 % 6 == 5 ? 1 : 0);
            x.undo(0);
        }
        // of no SIGNS: only CUT, ORDERED, JOINED can be; STUCK: SOLVED can't be
        for (int seed = 1; seed < 4000; seed += 37) {
            SubgroupWriter y = of(STUCK);
            long before = y.digest();
            y.lots(1, seed);
            int kind = next(seed) / 8 % 6;
            if (kind == 3 || kind == 4) due("32: nothing", y.count(7), 30);
            if (kind == 3 || kind == 4) due("32: nothing", y.count(6), 4);
            due("32: a deed", y.count(8), 1);
            y.undo(0);
            due("32: undone", y.digest(), before);
        }
        SubgroupWriter z = of(THREE);
        z.shorten();
        for (int seed = 1; seed < 2000; seed += 37) {
            z.lots(1, seed);
            if (next(seed) / 8 % 6 == 2) due("32: with itself", z.count(7), 2);
            z.undo(1);
        }
    }

    private static void promise33() {
        SubgroupWriter x = of(THREE);
        // by 2: SIGN 2 is 0, 1 and 3 alike, 1 and 4 alike; 3 3 and 4 4 tell nothing
        due("33: by 2", x.rank(2), 3);
        due("33: spare", x.asked(), 1);
        for (int p : new int[] {3, 5, 7}) {
            due("33: by " + p, x.rank(p), 4);
            due("33: spare by " + p, x.asked(), 0);
        }
        x.shorten();
        due("33: shortened by 2", x.rank(2), 0);
        due("33: spare", x.asked(), 1);
        due("33: shortened by 3", x.rank(3), 1);
        due("33: spare", x.asked(), 0);
        for (int p : new int[] {-2, 0, 1, 4, 6, 8, 9, 11, FAR, LEAST}) due("33: no prime", x.rank(p), BAD);
        due("33: no group", fresh().rank(2), STATE);
        due("33: no group, no prime", fresh().rank(4), BAD);
        SubgroupWriter y = of("a12340 b10234");
        due("33: no rules", y.rank(5), 0);
        due("33: all spare", y.asked(), 6);
        // 3 (8 times), 2 1 -2 3 3 3 3 3: those below 0 are taken off; 1 by 5: 3 is 0, then 1 is 0 by 3 (8 times)
        SubgroupWriter z = of(STUCK);
        due("33: below 0", z.rank(2), 1);
        due("33: spare", z.asked(), 2);
        due("33: by 3", z.rank(3), 2);
        due("33: spare", z.asked(), 1);
    }

    private static void promise34() {
        SubgroupWriter x = of(THREE);
        // 3a is 0, 2b is 0, 2a and 2b are 0
        due("34: by 2", x.ways(2), 1);
        due("34: upper", x.upper(), 2);
        due("34: lower", x.lower(), 1);
        due("34: by 3", x.ways(3), 0);
        due("34: upper", x.upper(), 1);
        SubgroupWriter y = of("a10b01c10=aBC=bB");
        due("34: by 7", y.ways(7), 2);
        due("34: upper", y.upper(), 49);
        SubgroupWriter z = of("a10b01c10");
        due("34: no relators", z.ways(5), 3);
        due("34: upper", z.upper(), 125);
        z.odds(0, 0, 2);
        z.ways(3);
        due("34: lower again", z.lower(), 1);
        due("34: upper again", z.upper(), 27);
        for (int p : new int[] {-7, 0, 1, 4, 9, 10, 11, LEAST}) due("34: no prime", x.ways(p), BAD);
        due("34: no group", fresh().ways(2), STATE);
        due("34: no group, no prime", fresh().ways(1), BAD);
        x.shorten();
        due("34: the same by any rules", x.ways(2), 1);
    }

    private static void promise35() {
        SubgroupWriter x = of(THREE);
        dueShare("35: none", x, x.odds(1, 1, 0), 1, 1);
        dueShare("35: none", x, x.odds(1, 2, 0), 0, 1);
        // from 0: a to 1, A to 2, b, B to 1
        dueShare("35: one", x, x.odds(0, 1, 1), 3, 4);
        dueShare("35: one", x, x.odds(0, 2, 1), 1, 4);
        dueShare("35: one", x, x.odds(0, 0, 1), 0, 1);
        dueShare("35: two", x, x.odds(0, 0, 2), 5, 8);
        SubgroupWriter y = of("a10");
        dueShare("35: eight", y, y.odds(0, 0, 8), 1, 1);
        dueShare("35: seven", y, y.odds(0, 0, 7), 0, 1);
        SubgroupWriter z = of("a01b01c10");
        // 1 and (1/3) eight times, halved
        dueShare("35: eight of three", z, z.odds(1, 1, 8), 3281, 6561);
        due("35: nine", x.odds(0, 0, 9), BAD);
        due("35: below", x.odds(0, 0, -1), BAD);
        due("35: no point", x.odds(3, 0, 1), BAD);
        due("35: no point", x.odds(0, -1, 1), BAD);
        due("35: no group", fresh().odds(0, 0, 0), BAD);
        due("35: as it was", z.upper(), 3281);
    }

    private static void promise36() {
        SubgroupWriter x = of(THREE);
        dueShare("36: none", x, x.mid(2, 0), 0, 1);
        // from 0: a, A are BRANCHES, b, B (EDGES 1, 3) SIGNS
        dueShare("36: one", x, x.mid(0, 1), 1, 2);
        // from 2: a a BRANCH; A by EDGE 2, b, B by EDGE 5
        dueShare("36: one", x, x.mid(2, 1), 3, 4);
        dueShare("36: two", x, x.mid(0, 2), 1, 1);
        dueShare("36: four", x, x.mid(0, 4), 111, 64);
        SubgroupWriter y = of("a10");
        // aa, AA: one SIGN; aA, Aa: none
        dueShare("36: two of one", y, y.mid(0, 2), 1, 2);
        x.shorten();
        dueShare("36: signs left or not", x, x.mid(0, 4), 111, 64);
        due("36: five", x.mid(0, 5), BAD);
        due("36: below", x.mid(0, -1), BAD);
        due("36: no point", x.mid(3, 1), BAD);
        due("36: no point", x.mid(-1, 1), BAD);
        due("36: no group", fresh().mid(0, 0), BAD);
    }

    private static void promise37() {
        SubgroupWriter x = of(THREE);
        due("37: before", x.asked(), 0);
        fill(x, 0, 6, 8);
        x.at(0, 1);
        due("37: at", x.asked(), 8);
        x.at(0, 2);
        x.at(6, 0);
        x.mean(5);
        x.reached(3, 0);
        x.edge(6, 0);
        x.mark(0, 2);
        x.written(0, 0, 1);
        x.rule(0, 1);
        x.often(0, 0);
        x.rank(4);
        due("37: refused ones tell nothing", x.asked(), 8);
        x.goes(0, 1);
        x.way(1, 2);
        x.alike(0, 3);
        x.ways(2);
        x.odds(0, 0, 2);
        x.mid(0, 2);
        x.count(6);
        x.turn(5);
        x.digest();
        x.fault(0);
        x.group(0);
        x.copy(0, 0, 0, 0, 1);
        due("37: others tell nothing", x.asked(), 8);
        x.mean(0);
        due("37: mean", x.asked(), 7);
        x.lay(0, 0, 9);
        due("37: lay", x.asked(), 6);
    }

    private static void promise38And39() {
        SubgroupWriter x = fresh();
        due("38: before", x.upper(), 0);
        due("39: before", x.lower(), 1);
        x = of(THREE);
        x.odds(0, 0, 2);
        x.odds(0, 0, 9);
        x.mid(0, 5);
        x.ways(4);
        x.group(0);
        due("38: last", x.upper(), 5);
        due("39: last", x.lower(), 8);
        x.odds(0, 0, 1);
        due("38: nought", x.upper(), 0);
        due("39: by one", x.lower(), 1);
    }

    private static void promise40() {
        SubgroupWriter x = of(THREE);
        x.row(3, 1);
        x.text(2, 1);
        x.keep(1);
        int[] counts = {3, 2, 3, 0, 4, 15, 9, 17, 0, 1, 2, 1, 2, 1};
        for (int what = 0; what < 14; what++) due("40: count " + what, x.count(what), counts[what]);
        x.solve(0, 2);
        x.order(2);
        x.solve(0, 3);
        // DEEP: 1 by a, 2 by a from 1; BRANCHES 0, 2; SIGNS 1 (0 b), 2 (1 b), 3 (2 a), 4 (2 b)
        // RULES: 3; 1 2; 2 2; 3; 2 1; 4 3 1; 3; 4 4; 3 1 4: 3 is SOLVED by the first
        int[] then = {3, 2, 3, 2, 4, 11, 8, 12, 3, 1, 2, 1, 2, 1};
        for (int what = 0; what < 14; what++) due("40: then " + what, x.count(what), then[what]);
        due("40: what", x.count(14), BAD);
        due("40: what", x.count(-1), BAD);
        due("40: what", x.count(FAR), BAD);
    }

    private static void promise41And42() {
        SubgroupWriter x = fresh();
        due("41: before", x.finding(), 0);
        for (int f = 1; f <= 5; f++) due("42: before", x.findings(f), 0);
        x.row(0, 0);
        x.at(1, 0);
        x.at(0, 0);
        x.at(0, 0);
        x.mean(0);
        x.row(0, -1);
        x.row(9, 0);
        due("41: latest", x.finding(), 5);
        due("42: nothing", x.findings(1), 1);
        due("42: beyond", x.findings(2), 2);
        due("42: unlike", x.findings(3), 0);
        due("42: nought", x.findings(4), 1);
        due("42: size", x.findings(5), 1);
        due("42: none", x.findings(0), BAD);
        due("42: none", x.findings(6), BAD);
        due("42: none", x.findings(-3), BAD);
        due("41: still", x.finding(), 5);
    }

    private static void promise43() {
        long h = 17;
        for (int k = 0; k < 14; k++) h *= 31;
        for (int k = 0; k < 13; k++) h = 31 * h - 1;
        due("43: a new object", fresh().digest(), h);
        SubgroupWriter x = of("a10 b01 =bB =aba");
        fill(x, 4, -7, 5);
        x.row(5, 0);
        x.text(1, 1);
        x.put(1, 0, 255);
        x.turn(1);
        x.keep(2);
        x.at(9, 9);
        x.asked();
        // EDGES: BRANCH; LOOP, SIGN 1; TWIN, SIGN 2; LOOP, SIGN 3. RULES: none; 3 2; none; 2 1, once turned: 2 3
        int[] all = {
            2, 2, 2, 0, 3, 7, 4, 4, 1, 2, 1, 2, 2, 1,
            NONE, NONE, 0, 0, 0, 1, 1, 1,
            1, 0, 1, 0, 0, 3, 0, 0, 1, 1, 4, 1, 0, 2, 1, 3, 1, 1, 3, 1,
            0, 2, 2, 3, 0, 2, 2, 1,
            -1, -1, 1,
            -1, -1, -1, -1, 2, -7, 5, 0,
            16, 97, 49, 48, 32, 98, 48, 49, 32, 61, 98, 66, 32, 61, 97, 98, 97, 1, -1, -1, -1
        };
        h = 17;
        for (int v : all) h = 31 * h + v;
        due("43: digest", x.digest(), h);
        due("43: it changes nothing", x.digest(), h);
    }

    /** What is promised of ranks: SPARE stays as it is, whatever is done. */
    private static void sparesStay() {
        String[] groups = {THREE, LONG, STUCK, WIDE, "a1230b0321=aaaa=bb=abab", "a12340b04321=aaaaa=bb=abab"};
        for (String text : groups) {
            for (int p : new int[] {2, 3, 5, 7}) {
                SubgroupWriter x = of(text);
                x.rank(p);
                int spare = x.asked();
                for (int seed = 1; seed < 40; seed++) {
                    x.lots(7, seed * 7919);
                    x.lots(10, seed * 104729);
                    x.rank(p);
                    due("33: spare of " + text + " by " + p, x.asked(), spare);
                    if (x.shorten() > 0) x.rank(p);
                    due("33: spare of shortened " + text + " by " + p, x.asked(), spare);
                    x.undo(0);
                }
            }
        }
    }
}
