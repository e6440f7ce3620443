import java.util.Arrays;

/** Presentations of subgroups, written by the way of a tree of points; ../shared/DOC.md says what each call answers. */
public final class SubgroupWriter {
    public static final int BAD = -1, FULL = -2, FINDING = -3, STATE = -4, SPENT = -6, NONE = -9;

    private static final int NOTHING = 1, BEYOND = 2, UNLIKE = 3, NOUGHT = 4, SIZE = 5;
    private static final int ROWS = 6, ROW_MOST = 40, TEXTS = 4, TEXT_MOST = 60, BOOKS = 3;
    private static final int MISSING = -1;
    private static final int MOST_POINTS = 5, MOST_GENERATORS = 3, MOST_RELATORS = 3, MOST_LETTERS = 8;
    private static final int MOST_EDGES = MOST_POINTS * MOST_GENERATORS;
    private static final int MOST_RULES = MOST_POINTS * MOST_RELATORS, MOST_IN_RULE = 16;
    private static final int MOST_DEEDS = 20, MOST_SHORTENED = 20, MOST_LOTS = 10;
    private static final int MOST_ODDS = 8, MOST_MID = 4;
    private static final int ORDERS = 3, LATE = 1, DEEP = 2;
    private static final int BRANCH = 1, SIGN = 2, LOOP = 3, TWIN = 4;
    private static final int BLANK = 32, FIGURE = 48, EQUAL = 61, SMALL = 97, GREAT = 65;
    /** No byte is this number: the sign that stands behind the last one of a TEXT. */
    private static final int END = 1000;
    /** DEEDS 0 to 5 bear the numbers by which lots() tells them. */
    private static final int TURNED = 0, TURNED_OVER = 1, JOINED = 2, CUT = 3, SOLVED = 4, ORDERED = 5;
    private static final int SHORTENED = 6, IDLE = 7, LOT_KINDS = 6;
    private static final long LOT_FACTOR = 48271L, LOT_MODULUS = 2147483647L;
    /** Above 40 SIGNS of 9 LETTERS each (spelt) and 16 SIGNS of 15 each (solve): no word grows beyond it. */
    private static final int MOST_IN_WORD = 400;

    private final Shelf rows = new Shelf(new int[ROWS][ROW_MOST]);
    private final Shelf texts = new Shelf(new int[TEXTS][TEXT_MOST]);
    private final Reader reader = new Reader();
    private final Book book = new Book();
    private final Trail[] kept = new Trail[BOOKS];
    private final Word word = new Word();
    private final Matrix matrix = new Matrix();
    private final int[] findingCounts = new int[SIZE + 1];
    private final long[] chances = new long[MOST_POINTS];
    private final long[] chancesNext = new long[MOST_POINTS];
    private final int[] drawn = new int[MOST_MID];
    /** The GROUP there is, and one to read another into: they change places when that one has no FAULT. */
    private Group current = new Group();
    private Group spare = new Group();
    private int lastAsked = 0;
    private long lastUpper = 0L;
    private long lastLower = 1L;
    private int lastFinding = 0;

    public SubgroupWriter() {
        for (int k = 0; k < BOOKS; k++) {
            kept[k] = new Trail();
            kept[k].size = MISSING;
        }
    }

    // ---- 1 rows, texts, groups

    public int row(int r, int n) {
        if (!rows.isNumber(r) || n > ROW_MOST) return BAD;
        if (n < 0) return found(SIZE);
        rows.make(r, n, 0);
        return n;
    }

    public int lay(int r, int i, int v) {
        if (!rows.isNumber(r)) return BAD;
        if (rows.isMissing(r)) return found(NOTHING);
        if (!rows.hasPlace(r, i)) return found(BEYOND);
        int was = rows.read(r, i);
        rows.write(r, i, v);
        return told(was);
    }

    public int at(int r, int i) {
        if (!rows.isNumber(r)) return BAD;
        if (rows.isMissing(r)) return found(NOTHING);
        if (!rows.hasPlace(r, i)) return found(BEYOND);
        return told(rows.read(r, i));
    }

    public int tear(int r) {
        if (!rows.isNumber(r)) return BAD;
        if (rows.isMissing(r)) return found(NOTHING);
        rows.remove(r);
        return 1;
    }

    public int copy(int r, int i, int to, int j, int n) {
        if (!rows.isNumber(r) || !rows.isNumber(to)) return BAD;
        if (n < 0) return found(SIZE);
        if (rows.isMissing(r) || rows.isMissing(to)) return found(NOTHING);
        if (!rows.hasPlaces(r, i, n) || !rows.hasPlaces(to, j, n)) return found(BEYOND);
        rows.move(r, i, to, j, n);
        return 1;
    }

    public int mean(int r) {
        if (!rows.isNumber(r)) return BAD;
        if (rows.isMissing(r)) return found(NOTHING);
        int n = rows.sizeOf(r);
        if (n <= 0) return found(NOUGHT);
        return told((int) (rows.sum(r) / n));
    }

    public int text(int t, int n) {
        if (!texts.isNumber(t) || n > TEXT_MOST) return BAD;
        if (n < 0) return found(SIZE);
        texts.make(t, n, BLANK);
        return n;
    }

    public int put(int t, int i, int v) {
        if (!texts.isNumber(t)) return BAD;
        if (texts.isMissing(t)) return found(NOTHING);
        if (!texts.hasPlace(t, i)) return found(BEYOND);
        int was = texts.read(t, i);
        texts.write(t, i, (byte) v);
        return was + 1000;
    }

    public int fault(int t) {
        if (!texts.isNumber(t)) return BAD;
        if (texts.isMissing(t)) return found(NOTHING);
        return reader.readGroup(texts, t, spare);
    }

    public int group(int t) {
        if (!texts.isNumber(t)) return BAD;
        if (texts.isMissing(t)) return found(NOTHING);
        if (reader.readGroup(texts, t, spare) != NONE) return STATE;
        Group former = current;
        current = spare;
        spare = former;
        book.open(current);
        for (int k = 0; k < BOOKS; k++) kept[k].size = MISSING;
        return current.points;
    }

    public int goes(int point, int letter) {
        if (!current.isPoint(point) || !current.isLetter(letter)) return BAD;
        return current.moved(point, letter);
    }

    public int reached(int point, int what) {
        if (!current.isPoint(point) || what < 0 || what > 3) return BAD;
        return told(book.tree.tellPoint(point, what));
    }

    public int way(int point, int r) {
        if (!current.isPoint(point) || !rows.isNumber(r)) return BAD;
        word.clear();
        book.tree.addWay(point, word);
        return hand(r);
    }

    public int edge(int e, int what) {
        if (!current.isEdge(e) || what < 0 || what > 4) return BAD;
        return told(edgeTells(e, what));
    }

    public int mark(int e, int kind) {
        if (!current.isEdge(e) || kind < BRANCH || kind > TWIN) return BAD;
        int is = book.tree.kinds[e];
        if (is != kind && (kind != SIGN || is == BRANCH)) return found(UNLIKE);
        return told(book.tree.markOf(current, e, kind));
    }

    // ---- 2 words

    public int written(int point, int r, int to) {
        if (!current.isPoint(point) || !rows.isNumber(r) || !rows.isNumber(to)) return BAD;
        if (rows.isMissing(r)) return found(NOTHING);
        for (int k = 0; k < rows.sizeOf(r); k++) {
            if (!current.isLetter(rows.read(r, k))) return found(UNLIKE);
        }
        told(book.tree.write(current, point, rows.cells[r], rows.sizeOf(r), word));
        return hand(to);
    }

    public int spelt(int r, int to) {
        if (!rows.isNumber(r) || !rows.isNumber(to)) return BAD;
        if (rows.isMissing(r)) return found(NOTHING);
        for (int k = 0; k < rows.sizeOf(r); k++) {
            if (!book.tree.isSigned(rows.read(r, k))) return found(UNLIKE);
        }
        word.clear();
        for (int k = 0; k < rows.sizeOf(r); k++) book.tree.addSpelling(current, rows.read(r, k), word);
        if (word.size > ROW_MOST) return SPENT;
        return hand(to);
    }

    public int rule(int i, int k) {
        if (!book.rules.isRule(i) || k < 0 || k >= book.rules.sizes[i]) return BAD;
        told(book.rules.signs[i][k]);
        return book.rules.sizes[i];
    }

    public int often(int i, int sign) {
        if (!book.rules.isRule(i) || !book.rules.isLeft(sign)) return BAD;
        told(book.rules.sumOf(i, sign));
        return book.rules.timesOf(i, sign);
    }

    public int alike(int i, int j) {
        if (!book.rules.isRule(i) || !book.rules.isRule(j) || i == j) return BAD;
        return book.rules.areAlike(i, j) ? 1 : 0;
    }

    // ---- 3 deeds

    public int order(int o) {
        if (o < 0 || o >= ORDERS) return BAD;
        if (current.points == 0 || o == book.order) return STATE;
        if (book.isFull(1)) return FULL;
        book.perform(ORDERED, o, 0);
        return book.rules.size;
    }

    public int turn(int i) {
        int refusal = refusalOfTurn(i);
        if (refusal != 0) return refusal;
        book.perform(TURNED, i, 0);
        return book.rules.sizes[i];
    }

    public int over(int i) {
        int refusal = refusalOfTurn(i);
        if (refusal != 0) return refusal;
        book.perform(TURNED_OVER, i, 0);
        return book.rules.sizes[i];
    }

    public int join(int i, int j) {
        if (!book.rules.isRule(i) || !book.rules.isRule(j) || i == j) return BAD;
        if (!book.rules.canJoin(i, j)) return SPENT;
        if (book.isFull(1)) return FULL;
        book.perform(JOINED, i, j);
        return book.rules.sizes[i];
    }

    public int cut(int i) {
        if (!book.rules.isRule(i)) return BAD;
        if (!book.rules.canCut(i)) return STATE;
        if (book.isFull(1)) return FULL;
        book.perform(CUT, i, 0);
        return book.rules.size;
    }

    public int solve(int i, int sign) {
        if (!book.rules.isRule(i) || !book.rules.isLeft(sign)) return BAD;
        if (book.rules.timesOf(i, sign) != 1) return STATE;
        if (!book.rules.fits(i, sign)) return SPENT;
        if (book.isFull(1)) return FULL;
        book.perform(SOLVED, i, sign);
        return book.rules.size;
    }

    public int shorten() {
        if (current.points == 0 || !book.rules.canShorten()) return STATE;
        if (book.isFull(1)) return FULL;
        int before = book.rules.size;
        book.perform(SHORTENED, 0, 0);
        return before - book.rules.size;
    }

    public int undo(int n) {
        // from the trail's end on there are no DEEDS, which is no wrong number: none are undone
        if (n < 0 || n > book.trail.size) return BAD;
        int undone = book.trail.size - n;
        book.trail.size = n;
        book.replay();
        return undone;
    }

    public int keep(int k) {
        if (k < 0 || k >= BOOKS) return BAD;
        if (current.points == 0) return STATE;
        kept[k].takeFrom(book.trail);
        return kept[k].size;
    }

    public int on(int k) {
        if (k < 0 || k >= BOOKS) return BAD;
        if (kept[k].size == MISSING) return found(NOTHING);
        book.trail.takeFrom(kept[k]);
        book.replay();
        return book.trail.size;
    }

    public int lots(int n, int seed) {
        if (n < 1 || n > MOST_LOTS || seed < 1 || seed >= LOT_MODULUS) return BAD;
        if (current.points == 0) return STATE;
        if (book.isFull(n)) return FULL;
        int number = seed;
        for (int k = 0; k < n; k++) {
            number = (int) (LOT_FACTOR * number % LOT_MODULUS);
            int first = book.lotFirst(number);
            int second = book.lotSecond(number, first);
            book.perform(book.lotKind(number, first, second), first, second);
        }
        return book.rules.size;
    }

    // ---- 4 ranks, chances

    public int rank(int p) {
        if (!isPrime(p)) return BAD;
        if (current.points == 0) return STATE;
        book.rules.fill(matrix, book.tree.signCount);
        int rank = matrix.rankBy(p);
        told(Integer.bitCount(book.rules.left) - rank);
        return rank;
    }

    public int ways(int p) {
        if (!isPrime(p)) return BAD;
        if (current.points == 0) return STATE;
        current.fill(matrix);
        int free = current.generators - matrix.rankBy(p);
        tellShare(power(p, free), 1L);
        return free;
    }

    public int odds(int k, int m, int n) {
        if (!current.isPoint(k) || !current.isPoint(m) || n < 0 || n > MOST_ODDS) return BAD;
        Arrays.fill(chances, 0L);
        chances[k] = 1L;
        for (int step = 0; step < n; step++) spreadChances();
        tellShare(chances[m], power(2 * current.generators, n));
        return 1;
    }

    public int mid(int k, int n) {
        if (!current.isPoint(k) || n < 0 || n > MOST_MID) return BAD;
        long words = power(2 * current.generators, n);
        long signs = 0L;
        for (int number = 0; number < words; number++) {
            current.draw(number, drawn, n);
            book.tree.write(current, k, drawn, n, word);
            signs += word.size;
        }
        tellShare(signs, words);
        return 1;
    }

    // ---- 5 what is told

    public int asked() {
        return lastAsked;
    }

    public long upper() {
        return lastUpper;
    }

    public long lower() {
        return lastLower;
    }

    public int count(int what) {
        switch (what) {
            case 0: return current.points;
            case 1: return current.generators;
            case 2: return current.relators;
            case 3: return book.order;
            case 4: return book.tree.signCount;
            case 5: return book.rules.left;
            case 6: return book.rules.size;
            case 7: return book.rules.allSigns();
            case 8: return book.trail.size;
            case 9: return book.tree.countKind(current, LOOP);
            case 10: return book.tree.countKind(current, TWIN);
            case 11: return rows.there();
            case 12: return texts.there();
            case 13: return keptBooks();
            default: return BAD;
        }
    }

    public int finding() {
        return lastFinding;
    }

    public int findings(int f) {
        if (f < NOTHING || f > SIZE) return BAD;
        return findingCounts[f];
    }

    public long digest() {
        long h = 17L;
        for (int what = 0; what <= 13; what++) h = 31L * h + count(what);
        for (int point = 0; point < current.points; point++) {
            for (int what = 0; what <= 3; what++) h = 31L * h + book.tree.tellPoint(point, what);
        }
        for (int e = 0; e < current.edges(); e++) {
            for (int what = 0; what <= 4; what++) h = 31L * h + edgeTells(e, what);
        }
        h = book.rules.digestOn(h);
        for (int k = 0; k < BOOKS; k++) h = 31L * h + kept[k].size;
        return texts.digestOn(rows.digestOn(h));
    }

    // ---- what several calls share

    private int told(int v) {
        lastAsked = v;
        return 1;
    }

    private int found(int f) {
        lastFinding = f;
        findingCounts[f]++;
        return FINDING;
    }

    /** The word written just now comes to a ROW. */
    private int hand(int r) {
        rows.make(r, word.size, 0);
        for (int k = 0; k < word.size; k++) rows.write(r, k, word.items[k]);
        return word.size;
    }

    private int edgeTells(int e, int what) {
        int sign = book.tree.signs[e];
        switch (what) {
            case 0: return book.tree.kinds[e];
            case 1: return current.startOf(e);
            case 2: return current.endOf(e);
            case 3: return sign;
            default: return book.rules.isLeft(sign) ? 1 : 0;
        }
    }

    /** Why a RULE can't be TURNED, nor TURNED OVER; 0, if it can. */
    private int refusalOfTurn(int i) {
        if (!book.rules.isRule(i)) return BAD;
        if (book.rules.sizes[i] == 0) return STATE;
        return book.isFull(1) ? FULL : 0;
    }

    private int keptBooks() {
        int n = 0;
        for (int k = 0; k < BOOKS; k++) {
            if (kept[k].size != MISSING) n++;
        }
        return n;
    }

    private void spreadChances() {
        Arrays.fill(chancesNext, 0L);
        for (int point = 0; point < current.points; point++) {
            for (int l = 0; l < 2 * current.generators; l++) {
                chancesNext[current.moved(point, letterOf(l))] += chances[point];
            }
        }
        System.arraycopy(chancesNext, 0, chances, 0, MOST_POINTS);
    }

    private void tellShare(long above, long below) {
        long common = commonDivisor(above, below);
        if (common <= 0L) return;
        lastUpper = above / common;
        lastLower = below / common;
    }

    private static long commonDivisor(long a, long b) {
        long x = a;
        long y = b;
        for (int step = 0; step < 200 && y != 0L; step++) {
            long rest = x % y;
            x = y;
            y = rest;
        }
        return x;
    }

    private static long power(long base, int times) {
        long result = 1L;
        for (int k = 0; k < times; k++) result *= base;
        return result;
    }

    private static boolean isPrime(int p) {
        return p == 2 || p == 3 || p == 5 || p == 7;
    }

    /** The LETTER that stands at a place of a, A, b, B, c, C. */
    private static int letterOf(int place) {
        int letter = place / 2 + 1;
        return place % 2 == 0 ? letter : -letter;
    }

    /** Numbered rows of bounded size, each of which may be missing. */
    private static final class Shelf {
        private final int[][] cells;
        private final int[] sizes;

        Shelf(int[][] cells) {
            this.cells = cells;
            this.sizes = new int[cells.length];
            Arrays.fill(sizes, MISSING);
        }

        boolean isNumber(int r) {
            return r >= 0 && r < sizes.length;
        }

        boolean isMissing(int r) {
            return !isNumber(r) || sizes[r] == MISSING;
        }

        boolean hasPlace(int r, int i) {
            return isNumber(r) && i >= 0 && i < sizes[r];
        }

        boolean hasPlaces(int r, int i, int n) {
            // n against what is left, for i and n together may wrap around
            return !isMissing(r) && i >= 0 && i <= sizes[r] && n >= 0 && n <= sizes[r] - i;
        }

        int sizeOf(int r) {
            return isNumber(r) ? sizes[r] : MISSING;
        }

        void make(int r, int n, int filler) {
            if (!isNumber(r) || n < 0 || n > cells[r].length) return;
            sizes[r] = n;
            Arrays.fill(cells[r], filler);
        }

        void remove(int r) {
            if (isNumber(r)) sizes[r] = MISSING;
        }

        int read(int r, int i) {
            return hasPlace(r, i) ? cells[r][i] : 0;
        }

        void write(int r, int i, int v) {
            if (hasPlace(r, i)) cells[r][i] = v;
        }

        void move(int r, int i, int to, int j, int n) {
            if (hasPlaces(r, i, n) && hasPlaces(to, j, n)) System.arraycopy(cells[r], i, cells[to], j, n);
        }

        long sum(int r) {
            long all = 0L;
            for (int i = 0; i < sizeOf(r); i++) all += cells[r][i];
            return all;
        }

        int there() {
            int n = 0;
            for (int r = 0; r < sizes.length; r++) {
                if (sizes[r] != MISSING) n++;
            }
            return n;
        }

        long digestOn(long start) {
            long h = start;
            for (int r = 0; r < sizes.length; r++) {
                h = 31L * h + sizes[r];
                for (int i = 0; i < sizes[r]; i++) h = 31L * h + cells[r][i];
            }
            return h;
        }
    }

    /** What GENERATORS do to POINTS, and RELATORS; without POINTS: no GROUP. */
    private static final class Group {
        int points = 0;
        int generators = 0;
        int relators = 0;
        /** Rows by letterIndex: where that LETTER takes each POINT. */
        final int[][] takes = new int[2 * MOST_GENERATORS][MOST_POINTS];
        final int[][] letters = new int[MOST_RELATORS][MOST_LETTERS];
        final int[] sizes = new int[MOST_RELATORS];

        void empty() {
            points = 0;
            generators = 0;
            relators = 0;
            for (int l = 0; l < 2 * MOST_GENERATORS; l++) Arrays.fill(takes[l], MISSING);
        }

        boolean isPoint(int point) {
            return point >= 0 && point < points;
        }

        boolean isLetter(int letter) {
            return letter != 0 && letter >= -generators && letter <= generators;
        }

        boolean isEdge(int e) {
            return e >= 0 && e < edges();
        }

        int edges() {
            return points * generators;
        }

        int edgeOf(int point, int generator) {
            return generators * point + generator;
        }

        int startOf(int e) {
            return isEdge(e) && generators > 0 ? e / generators : 0;
        }

        int generatorOf(int e) {
            return isEdge(e) && generators > 0 ? e % generators : 0;
        }

        int endOf(int e) {
            return moved(startOf(e), generatorOf(e) + 1);
        }

        int moved(int point, int letter) {
            if (point < 0 || point >= points) return 0;
            if (letter == 0 || letter < -generators || letter > generators) return 0;
            return takes[letter > 0 ? 2 * (letter - 1) : 2 * (-letter - 1) + 1][point];
        }

        boolean leavesAll(int relator) {
            for (int point = 0; point < points; point++) {
                int here = point;
                for (int k = 0; k < sizes[relator]; k++) here = moved(here, letters[relator][k]);
                if (here != point) return false;
            }
            return true;
        }

        boolean comesToAll() {
            int seen = 1;
            // each round reaches one POINT more, or none any more; a, b, c alone come as far as A, B, C too
            for (int round = 0; round < points; round++) {
                for (int point = 0; point < points; point++) {
                    if ((seen >> point & 1) == 0) continue;
                    for (int g = 1; g <= generators; g++) seen |= 1 << moved(point, g);
                }
            }
            return seen == (1 << points) - 1;
        }

        /** The word of n LETTERS that bears a number, each LETTER a figure of it. */
        void draw(int number, int[] out, int n) {
            int base = 2 * generators;
            if (base <= 0) return;
            int rest = number;
            for (int k = 0; k < n && k < out.length; k++) {
                out[k] = letterOf(rest % base);
                rest /= base;
            }
        }

        void fill(Matrix matrix) {
            matrix.clear(relators, generators);
            for (int r = 0; r < relators; r++) {
                for (int k = 0; k < sizes[r]; k++) {
                    int letter = letters[r][k];
                    matrix.add(r, Math.abs(letter) - 1, letter > 0 ? 1 : -1);
                }
            }
        }
    }

    /** Reads a TEXT as a GROUP, up to its FAULT. */
    private static final class Reader {
        private final int[] signs = new int[TEXT_MOST];
        private int size = 0;
        private int place = 0;

        /** The FAULT of a TEXT, or NONE: then the GROUP is what the TEXT says. */
        int readGroup(Shelf texts, int t, Group out) {
            size = Math.min(TEXT_MOST, texts.sizeOf(t));
            for (int k = 0; k < size; k++) signs[k] = texts.read(t, k);
            place = 0;
            out.empty();
            if (!readGenerators(out) || !readRelators(out)) return place;
            skipBlanks();
            if (place < size) return place;
            return out.comesToAll() ? NONE : size;
        }

        private int signHere() {
            return place >= 0 && place < size ? signs[place] : END;
        }

        private void skipBlanks() {
            while (place < size && signHere() == BLANK) place++;
        }

        private boolean readGenerators(Group out) {
            for (int g = 0; g < MOST_GENERATORS; g++) {
                skipBlanks();
                if (signHere() != SMALL + g) return g > 0;
                place++;
                if (g == 0) out.points = countFigures();
                if (out.points < 2) {
                    place += out.points;
                    return false;
                }
                if (!readFigures(out, g)) return false;
                out.generators = g + 1;
            }
            return true;
        }

        private int countFigures() {
            int n = 0;
            while (n < MOST_POINTS && place + n < size && isFigure(signs[place + n])) n++;
            return n;
        }

        private static boolean isFigure(int sign) {
            return sign >= FIGURE && sign < FIGURE + 10;
        }

        private boolean readFigures(Group out, int g) {
            for (int point = 0; point < out.points; point++) {
                int to = signHere() - FIGURE;
                if (to < 0 || to >= out.points || out.takes[2 * g + 1][to] != MISSING) return false;
                out.takes[2 * g][point] = to;
                out.takes[2 * g + 1][to] = point;
                place++;
            }
            return true;
        }

        private boolean readRelators(Group out) {
            for (int r = 0; r < MOST_RELATORS; r++) {
                skipBlanks();
                if (signHere() != EQUAL) return true;
                int start = place;
                place++;
                if (!readLetters(out, r)) return false;
                if (!out.leavesAll(r)) {
                    place = start;
                    return false;
                }
                out.relators = r + 1;
            }
            return true;
        }

        private boolean readLetters(Group out, int r) {
            int n = 0;
            while (n <= MOST_LETTERS && letterHere() != 0) {
                if (n == MOST_LETTERS || !out.isLetter(letterHere())) return false;
                out.letters[r][n] = letterHere();
                n++;
                place++;
            }
            out.sizes[r] = n;
            return n > 0;
        }

        /** 0, where none of a, b, c, A, B, C stands. */
        private int letterHere() {
            int sign = signHere();
            if (sign >= SMALL && sign < SMALL + MOST_GENERATORS) return sign - SMALL + 1;
            if (sign >= GREAT && sign < GREAT + MOST_GENERATORS) return GREAT - sign - 1;
            return 0;
        }
    }

    /** A word that is REDUCED at every step of being made. */
    private static final class Word {
        final int[] items = new int[MOST_IN_WORD];
        int size = 0;

        void clear() {
            size = 0;
        }

        void push(int item) {
            // a BRANCH has no SIGN: 0 adds nothing
            if (item == 0) return;
            if (size > 0 && items[size - 1] == -item) {
                size--;
            } else if (size < MOST_IN_WORD) {
                items[size] = item;
                size++;
            }
        }
    }

    /** THE TREE by an ORDER, with KINDS and SIGNS of EDGES. */
    private static final class Tree {
        final int[] kinds = new int[MOST_EDGES];
        final int[] signs = new int[MOST_EDGES];
        int signCount = 0;
        private final int[] from = new int[MOST_POINTS];
        private final int[] by = new int[MOST_POINTS];
        private final int[] depth = new int[MOST_POINTS];
        private final int[] turnOf = new int[MOST_POINTS];
        private final int[] inTurn = new int[MOST_POINTS];
        private final int[] edgeOfSign = new int[MOST_EDGES + 1];
        private final int[] wayLetters = new int[MOST_POINTS];
        private int reachedCount = 0;

        void plant() {
            Arrays.fill(turnOf, MISSING);
            reachedCount = 0;
            reach(0, NONE, NONE, 0);
        }

        private void reach(int point, int start, int letter, int length) {
            if (reachedCount >= MOST_POINTS) return;
            from[point] = start;
            by[point] = letter;
            depth[point] = length;
            turnOf[point] = reachedCount;
            inTurn[reachedCount] = point;
            reachedCount++;
        }

        void growBroad(Group group, boolean late) {
            int all = 2 * group.generators;
            for (int k = 0; k < reachedCount && k < MOST_POINTS; k++) {
                int here = inTurn[k];
                for (int l = 0; l < all; l++) {
                    int letter = letterOf(late ? all - 1 - l : l);
                    int next = group.moved(here, letter);
                    if (turnOf[next] == MISSING) reach(next, here, letter, depth[here] + 1);
                }
            }
        }

        void growDeep(Group group) {
            int here = 0;
            // each step reaches a POINT or leaves one for good
            for (int step = 0; step < 2 * MOST_POINTS; step++) {
                int letter = letterToNew(group, here);
                if (letter != 0) {
                    int next = group.moved(here, letter);
                    reach(next, here, letter, depth[here] + 1);
                    here = next;
                } else if (from[here] >= 0) {
                    here = from[here];
                }
            }
        }

        private int letterToNew(Group group, int here) {
            for (int l = 0; l < 2 * group.generators; l++) {
                if (turnOf[group.moved(here, letterOf(l))] == MISSING) return letterOf(l);
            }
            return 0;
        }

        void nameEdges(Group group) {
            signCount = 0;
            Arrays.fill(kinds, SIGN);
            Arrays.fill(signs, 0);
            for (int point = 0; point < group.points; point++) {
                if (by[point] != NONE) kinds[branchOf(group, point)] = BRANCH;
            }
            for (int point = 0; point < group.points; point++) {
                for (int g = 0; g < group.generators; g++) {
                    int e = group.edgeOf(point, g);
                    if (kinds[e] != BRANCH) nameSign(e, kindOfSign(point, group.moved(point, g + 1)));
                }
            }
        }

        private void nameSign(int e, int kind) {
            kinds[e] = kind;
            signCount++;
            signs[e] = signCount;
            edgeOfSign[signCount] = e;
        }

        /** The EDGE by which a POINT other than POINT 0 was reached. */
        private int branchOf(Group group, int point) {
            int letter = by[point];
            return letter > 0 ? group.edgeOf(from[point], letter - 1) : group.edgeOf(point, -letter - 1);
        }

        private int kindOfSign(int start, int end) {
            if (start == end) return LOOP;
            return from[start] == end || from[end] == start ? TWIN : SIGN;
        }

        int tellPoint(int point, int what) {
            switch (what) {
                case 0: return from[point];
                case 1: return by[point];
                case 2: return depth[point];
                default: return turnOf[point];
            }
        }

        int markOf(Group group, int e, int kind) {
            int start = group.startOf(e);
            int end = group.endOf(e);
            switch (kind) {
                case BRANCH: return turnOf[start] > turnOf[end] ? start : end;
                case SIGN: return depth[start] + depth[end] + 1;
                case LOOP: return loopsAt(group, start);
                default: return branchOf(group, turnOf[start] > turnOf[end] ? start : end);
            }
        }

        private int loopsAt(Group group, int point) {
            int n = 0;
            for (int g = 0; g < group.generators; g++) {
                if (kinds[group.edgeOf(point, g)] == LOOP) n++;
            }
            return n;
        }

        int countKind(Group group, int kind) {
            int n = 0;
            for (int e = 0; e < group.edges(); e++) {
                if (kinds[e] == kind) n++;
            }
            return n;
        }

        boolean isSigned(int number) {
            return number != 0 && number >= -signCount && number <= signCount;
        }

        /** Behind a word: the WAY of a POINT. */
        void addWay(int point, Word out) {
            fillWay(point);
            for (int k = 0; k < depth[point]; k++) out.push(wayLetters[k]);
        }

        private void addWayBack(int point, Word out) {
            fillWay(point);
            for (int k = depth[point] - 1; k >= 0; k--) out.push(-wayLetters[k]);
        }

        private void fillWay(int point) {
            int here = point;
            for (int k = depth[point] - 1; k >= 0 && here >= 0; k--) {
                wayLetters[k] = by[here];
                here = from[here];
            }
        }

        /** Behind a word: a SIGN, perhaps below 0, as LETTERS. */
        void addSpelling(Group group, int sign, Word out) {
            if (!isSigned(sign)) return;
            int e = edgeOfSign[Math.abs(sign)];
            int letter = group.generatorOf(e) + 1;
            addWay(sign > 0 ? group.startOf(e) : group.endOf(e), out);
            out.push(sign > 0 ? letter : -letter);
            addWayBack(sign > 0 ? group.endOf(e) : group.startOf(e), out);
        }

        /** LETTERS, WRITTEN from a POINT, REDUCED: to which POINT they go. */
        int write(Group group, int point, int[] letters, int size, Word out) {
            out.clear();
            int here = point;
            for (int k = 0; k < size && k < letters.length; k++) {
                int letter = letters[k];
                if (!group.isLetter(letter)) continue;
                int next = group.moved(here, letter);
                if (letter > 0) {
                    out.push(signs[group.edgeOf(here, letter - 1)]);
                } else {
                    out.push(-signs[group.edgeOf(next, -letter - 1)]);
                }
                here = next;
            }
            return here;
        }
    }

    /** RULES, and which SIGNS are LEFT; what a deed needs is looked at by those who ask for it. */
    private static final class Rules {
        final int[][] signs = new int[MOST_RULES][MOST_IN_RULE];
        final int[] sizes = new int[MOST_RULES];
        int size = 0;
        int left = 0;
        private final Word draft = new Word();
        private final Word solution = new Word();

        void make(Group group, Tree tree) {
            size = 0;
            left = (1 << tree.signCount) - 1;
            for (int point = 0; point < group.points; point++) {
                for (int r = 0; r < group.relators; r++) {
                    tree.write(group, point, group.letters[r], group.sizes[r], draft);
                    size++;
                    storeDraft(size - 1);
                }
            }
        }

        private void storeDraft(int i) {
            sizes[i] = Math.min(MOST_IN_RULE, draft.size);
            System.arraycopy(draft.items, 0, signs[i], 0, sizes[i]);
        }

        boolean isRule(int i) {
            return i >= 0 && i < size;
        }

        boolean isLeft(int sign) {
            return sign >= 1 && sign <= MOST_EDGES && (left >> (sign - 1) & 1) == 1;
        }

        int timesOf(int i, int sign) {
            int n = 0;
            for (int k = 0; k < sizes[i]; k++) {
                if (signs[i][k] == sign || signs[i][k] == -sign) n++;
            }
            return n;
        }

        int sumOf(int i, int sign) {
            int n = 0;
            for (int k = 0; k < sizes[i]; k++) {
                if (signs[i][k] == sign) n++;
                if (signs[i][k] == -sign) n--;
            }
            return n;
        }

        int allSigns() {
            int n = 0;
            for (int i = 0; i < size; i++) n += sizes[i];
            return n;
        }

        boolean areAlike(int i, int j) {
            int n = sizes[i];
            if (n != sizes[j]) return false;
            if (n == 0) return true;
            for (int shift = 0; shift < n; shift++) {
                if (isShifted(i, j, shift) || isShiftedOver(i, j, shift)) return true;
            }
            return false;
        }

        private boolean isShifted(int i, int j, int shift) {
            int n = sizes[i];
            for (int k = 0; k < n; k++) {
                if (signs[i][(k + shift) % n] != signs[j][k]) return false;
            }
            return true;
        }

        private boolean isShiftedOver(int i, int j, int shift) {
            int n = sizes[i];
            for (int k = 0; k < n; k++) {
                if (-signs[i][n - 1 - (k + shift) % n] != signs[j][k]) return false;
            }
            return true;
        }

        void turnFirst(int i) {
            if (!isRule(i) || sizes[i] == 0) return;
            draft.clear();
            for (int k = 1; k < sizes[i]; k++) draft.push(signs[i][k]);
            draft.push(signs[i][0]);
            storeDraft(i);
        }

        void turnAll(int i) {
            if (!isRule(i)) return;
            draft.clear();
            for (int k = sizes[i] - 1; k >= 0; k--) draft.push(-signs[i][k]);
            storeDraft(i);
        }

        boolean canJoin(int i, int j) {
            if (!isRule(i) || !isRule(j) || i == j) return false;
            draft.clear();
            for (int k = 0; k < sizes[i]; k++) draft.push(signs[i][k]);
            for (int k = 0; k < sizes[j]; k++) draft.push(signs[j][k]);
            return draft.size <= MOST_IN_RULE;
        }

        void joinBoth(int i, int j) {
            if (canJoin(i, j)) storeDraft(i);
        }

        boolean canCut(int i) {
            if (sizes[i] == 0) return true;
            for (int j = 0; j < i; j++) {
                if (areAlike(i, j)) return true;
            }
            return false;
        }

        void remove(int i) {
            if (!isRule(i)) return;
            int[] gone = signs[i];
            for (int j = i; j < size - 1; j++) {
                signs[j] = signs[j + 1];
                sizes[j] = sizes[j + 1];
            }
            signs[size - 1] = gone;
            size--;
        }

        /** The least SIGN that is in a RULE just once, or 0. */
        int leastOnce(int i) {
            for (int sign = 1; sign <= MOST_EDGES; sign++) {
                if (timesOf(i, sign) == 1) return sign;
            }
            return 0;
        }

        /** Whether no other RULE would have too many SIGNS, if this one were SOLVED. */
        boolean fits(int i, int sign) {
            solveInto(i, sign);
            for (int j = 0; j < size; j++) {
                if (j == i || timesOf(j, sign) == 0) continue;
                draftWithout(j, sign);
                if (draft.size > MOST_IN_RULE) return false;
            }
            return true;
        }

        void solveFor(int i, int sign) {
            if (!isRule(i) || !isLeft(sign)) return;
            solveInto(i, sign);
            for (int j = 0; j < size; j++) {
                if (j == i || timesOf(j, sign) == 0) continue;
                draftWithout(j, sign);
                storeDraft(j);
            }
            remove(i);
            left &= ~(1 << (sign - 1));
        }

        /** What a SIGN is by a RULE that has it just once. */
        private void solveInto(int i, int sign) {
            solution.clear();
            int place = 0;
            for (int k = 0; k < sizes[i]; k++) {
                if (Math.abs(signs[i][k]) == sign) place = k;
            }
            if (signs[i][place] > 0) {
                for (int k = place - 1; k >= 0; k--) solution.push(-signs[i][k]);
                for (int k = sizes[i] - 1; k > place; k--) solution.push(-signs[i][k]);
            } else {
                for (int k = place + 1; k < sizes[i]; k++) solution.push(signs[i][k]);
                for (int k = 0; k < place; k++) solution.push(signs[i][k]);
            }
        }

        private void draftWithout(int j, int sign) {
            draft.clear();
            for (int k = 0; k < sizes[j]; k++) {
                int here = signs[j][k];
                if (here == sign) {
                    for (int m = 0; m < solution.size; m++) draft.push(solution.items[m]);
                } else if (here == -sign) {
                    for (int m = solution.size - 1; m >= 0; m--) draft.push(-solution.items[m]);
                } else {
                    draft.push(here);
                }
            }
        }

        private int firstToCut() {
            for (int i = 0; i < size; i++) {
                if (canCut(i)) return i;
            }
            return MISSING;
        }

        /** RULE and SIGN to SOLVE next, as one number (RULE times 16, and SIGN), or MISSING. */
        private int nextToSolve() {
            for (int length = 1; length <= MOST_IN_RULE; length++) {
                for (int i = 0; i < size; i++) {
                    if (sizes[i] != length) continue;
                    for (int sign = 1; sign <= MOST_EDGES; sign++) {
                        if (timesOf(i, sign) == 1 && fits(i, sign)) return i * 16 + sign;
                    }
                }
            }
            return MISSING;
        }

        boolean canShorten() {
            return firstToCut() != MISSING || nextToSolve() != MISSING;
        }

        void shortenAll() {
            for (int step = 0; step < MOST_SHORTENED; step++) {
                int cut = firstToCut();
                if (cut != MISSING) {
                    remove(cut);
                    continue;
                }
                int next = nextToSolve();
                if (next == MISSING) return;
                solveFor(next / 16, next % 16);
            }
        }

        void fill(Matrix matrix, int signCount) {
            matrix.clear(size, signCount);
            for (int i = 0; i < size; i++) {
                for (int sign = 1; sign <= signCount; sign++) {
                    if (isLeft(sign)) matrix.add(i, sign - 1, sumOf(i, sign));
                }
            }
        }

        long digestOn(long start) {
            long h = start;
            for (int i = 0; i < size; i++) {
                h = 31L * h + sizes[i];
                for (int k = 0; k < sizes[i]; k++) h = 31L * h + signs[i][k];
            }
            return h;
        }
    }

    /** DEEDS as they were asked for: a BOOK is what they make of a GROUP, so they are all that is kept of it. */
    private static final class Trail {
        final int[] kinds = new int[MOST_DEEDS];
        final int[] firsts = new int[MOST_DEEDS];
        final int[] seconds = new int[MOST_DEEDS];
        int size = 0;

        void add(int kind, int first, int second) {
            if (size < 0 || size >= MOST_DEEDS) return;
            kinds[size] = kind;
            firsts[size] = first;
            seconds[size] = second;
            size++;
        }

        void takeFrom(Trail other) {
            System.arraycopy(other.kinds, 0, kinds, 0, MOST_DEEDS);
            System.arraycopy(other.firsts, 0, firsts, 0, MOST_DEEDS);
            System.arraycopy(other.seconds, 0, seconds, 0, MOST_DEEDS);
            size = other.size;
        }
    }

    /** The BOOK of a GROUP. */
    private static final class Book {
        final Tree tree = new Tree();
        final Rules rules = new Rules();
        final Trail trail = new Trail();
        int order = 0;
        private Group group = null;

        void open(Group of) {
            group = of;
            trail.size = 0;
            arrange(0);
        }

        private void arrange(int o) {
            if (group == null) return;
            order = o;
            tree.plant();
            if (o == DEEP) {
                tree.growDeep(group);
            } else {
                tree.growBroad(group, o == LATE);
            }
            tree.nameEdges(group);
            rules.make(group, tree);
        }

        boolean isFull(int more) {
            return trail.size + more > MOST_DEEDS;
        }

        void perform(int kind, int first, int second) {
            trail.add(kind, first, second);
            enact(kind, first, second);
        }

        void replay() {
            arrange(0);
            for (int k = 0; k < trail.size; k++) enact(trail.kinds[k], trail.firsts[k], trail.seconds[k]);
        }

        private void enact(int kind, int first, int second) {
            switch (kind) {
                case TURNED: rules.turnFirst(first); break;
                case TURNED_OVER: rules.turnAll(first); break;
                case JOINED: rules.joinBoth(first, second); break;
                case CUT: rules.remove(first); break;
                case SOLVED: rules.solveFor(first, second); break;
                case ORDERED: arrange(first); break;
                case SHORTENED: rules.shortenAll(); break;
                default: break;
            }
        }

        /** The RULE of a lot (0 without RULES), or the ORDER that it asks for. */
        int lotFirst(int number) {
            if (lotAsks(number) == ORDERED) return (order + 1) % ORDERS;
            return rules.size > 0 ? number / 64 % rules.size : 0;
        }

        /** The RULE to join, or the SIGN to solve for. */
        int lotSecond(int number, int first) {
            if (rules.size == 0) return 0;
            switch (lotAsks(number)) {
                case JOINED: return (first + 1) % rules.size;
                case SOLVED: return rules.leastOnce(first);
                default: return 0;
            }
        }

        int lotKind(int number, int first, int second) {
            int kind = lotAsks(number);
            return canBe(kind, first, second) ? kind : IDLE;
        }

        private int lotAsks(int number) {
            return number / 8 % LOT_KINDS;
        }

        private boolean canBe(int kind, int first, int second) {
            if (kind == ORDERED) return true;
            if (!rules.isRule(first)) return false;
            switch (kind) {
                case JOINED: return rules.canJoin(first, second);
                case CUT: return rules.canCut(first);
                case SOLVED: return second != 0 && rules.fits(first, second);
                default: return rules.sizes[first] > 0;
            }
        }
    }

    /** Whole numbers in rows, of which the rank is sought. */
    private static final class Matrix {
        private final int[][] cells = new int[MOST_RULES][MOST_EDGES];
        private int height = 0;
        private int width = 0;

        void clear(int newHeight, int newWidth) {
            height = Math.min(MOST_RULES, newHeight);
            width = Math.min(MOST_EDGES, newWidth);
            for (int i = 0; i < height; i++) Arrays.fill(cells[i], 0);
        }

        void add(int i, int k, int more) {
            if (i >= 0 && i < height && k >= 0 && k < width) cells[i][k] += more;
        }

        /** The rank modulo a prime; it uses the rows up. */
        int rankBy(int p) {
            if (p < 2) return 0;
            for (int i = 0; i < height; i++) {
                for (int k = 0; k < width; k++) cells[i][k] = Math.floorMod(cells[i][k], p);
            }
            int rank = 0;
            for (int k = 0; k < width && rank < height; k++) {
                if (!bringUp(rank, k)) continue;
                for (int i = rank + 1; i < height; i++) clearBelow(rank, i, k, p);
                rank++;
            }
            return rank;
        }

        private boolean bringUp(int rank, int k) {
            for (int i = rank; i < height; i++) {
                if (cells[i][k] == 0) continue;
                int[] found = cells[i];
                cells[i] = cells[rank];
                cells[rank] = found;
                return true;
            }
            return false;
        }

        /** Both rows are multiplied, for that spares the inverse. */
        private void clearBelow(int rank, int i, int k, int p) {
            int lead = cells[rank][k];
            int here = cells[i][k];
            if (p < 2) return;
            for (int m = 0; m < width; m++) {
                cells[i][m] = Math.floorMod(cells[i][m] * lead - cells[rank][m] * here, p);
            }
        }
    }
}
