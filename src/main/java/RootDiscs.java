/**
 * The roots of a polynomial, approximated all together. What each call answers and changes is told
 * by the numbered promises of the document; all is reckoned in whole numbers.
 */
public final class RootDiscs {
    public static final int NONE = -1;

    private static final int UNIT = 32;
    private static final int UNIT_SHIFT = 5;
    private static final int FARTHEST = 256;
    private static final int MOST_DEGREE = 6;
    private static final int MOST_TOLD = 99;
    private static final int MOST_COEFFICIENT = 9999;
    private static final int MOST_RADIUS = 9999;
    private static final int MOST_BOUND = 9999;
    private static final int MOST_STEP = 64;
    private static final int MOST_PART_OF_PRODUCT = 16384;
    private static final long MOST_PART_OF_VALUE = 1099511627776L;
    private static final int MOST_HALVINGS = 64;
    private static final int MOST_FACTOR = 8;
    private static final int MOST_DEBTS = 5;
    private static final int MOST_VISITS = 200;
    private static final int MOST_GOAL = 99;
    private static final int USUAL_GOAL = 2;
    private static final int MOST_SWEEPS = 50;
    private static final int MOST_FORESEEN_SWEEPS = 200;
    private static final int MOST_BYTES = 400;
    private static final int MOST_REPORT_BYTES = 128;
    private static final int MOST_UNDOS = 6;

    private final State now = new State();
    private final State trial = new State();
    private final State saved = new State();
    private boolean isSaved;
    private final State[] past = new State[MOST_UNDOS];
    private int pastNext;
    private int pastCount;
    private final Discs discs = new Discs();
    private final Complex scratch = new Complex();
    private final long[] sizes = new long[MOST_DEGREE];
    private final Text text = new Text();
    private final TextReader textReader = new TextReader();
    private final Script script = new Script();
    private final byte[] reportBytes = new byte[MOST_REPORT_BYTES];
    private int reportLength;

    public RootDiscs() {
        for (int i = 0; i < past.length; i++) {
            past[i] = new State();
        }
        now.beginAsNew();
    }

    // ---- texts

    public int feed(int a, int b, int c, int d, int e) throws IllegalStateException {
        if (!text.hasRoomFor(20)) {
            throw new IllegalStateException("the buffer would exceed 400 bytes");
        }
        text.append(a);
        text.append(b);
        text.append(c);
        text.append(d);
        text.append(e);
        return text.length;
    }

    public int truncate(int n) throws IllegalArgumentException {
        if (n < 0 || n > text.length) {
            throw new IllegalArgumentException("no such length");
        }
        text.length = n;
        return n;
    }

    public int readText() throws IllegalArgumentException {
        boolean isRead = textReader.reads(text, trial);
        text.length = 0;
        if (!isRead) {
            throw new IllegalArgumentException("the text has an error");
        }
        now.copyFrom(trial);
        forgetUndos();
        return now.poly.degree;
    }

    public int runScript() throws IllegalArgumentException {
        boolean isRead = script.reads(text);
        text.length = 0;
        if (!isRead) {
            throw new IllegalArgumentException("the script has an error");
        }
        keepForUndo();
        runBlock(0, script.count, 0);
        return script.done;
    }

    public int errorCode() {
        return text.errorCode;
    }

    public int errorPosition() {
        return text.errorPosition;
    }

    // ---- the polynomial

    public int degree() {
        return now.poly.degree;
    }

    public int coefficient(int k) throws IndexOutOfBoundsException {
        if (!now.poly.has(k)) {
            throw new IndexOutOfBoundsException("no such coefficient");
        }
        return now.poly.at(k);
    }

    public int firstDegree() {
        return now.first.degree;
    }

    public int firstCoefficient(int k) throws IndexOutOfBoundsException {
        if (!now.first.has(k)) {
            throw new IndexOutOfBoundsException("no such coefficient");
        }
        return now.first.at(k);
    }

    public long valueAt(int x, int y, boolean isImaginary) throws IllegalArgumentException {
        if (!isPlace(x, y)) {
            throw new IllegalArgumentException("no such place");
        }
        now.poly.reckonAt(x, y, false, scratch);
        return isImaginary ? scratch.im : scratch.re;
    }

    public long slopeAt(int x, int y, boolean isImaginary) throws IllegalArgumentException {
        if (!isPlace(x, y)) {
            throw new IllegalArgumentException("no such place");
        }
        now.poly.reckonAt(x, y, true, scratch);
        return isImaginary ? scratch.im : scratch.re;
    }

    public int edges() {
        return now.poly.countEdges();
    }

    public int edge(int i, int what) throws IndexOutOfBoundsException, IllegalArgumentException {
        if (i < 0 || i >= now.poly.countEdges()) {
            throw new IndexOutOfBoundsException("no such edge");
        }
        int from = now.poly.edgeStart(i);
        switch (what) {
            case 0:
                return from;
            case 1:
                return now.poly.edgeEnd(from);
            case 2:
                return now.poly.edgeLength(from);
            default:
                throw new IllegalArgumentException("no such number of an edge");
        }
    }

    public int bound() {
        return now.poly.farthestRoot();
    }

    // ---- points

    public int point(int point, int what) throws IndexOutOfBoundsException, IllegalArgumentException {
        if (!now.points.has(point)) {
            throw new IndexOutOfBoundsException("no such point");
        }
        if (what < 0 || what > 6) {
            throw new IllegalArgumentException("no such number of a point");
        }
        if (what >= 4 || what == 2) {
            discs.reckon(now);
        }
        switch (what) {
            case 0:
                return now.points.xOf(point);
            case 1:
                return now.points.yOf(point);
            case 2:
                return discs.radiusOf(point);
            case 3:
                return now.points.otherOf(point);
            case 4:
                return discs.lowestOf(point);
            case 5:
                return discs.isSettled(point, now.goal) ? 1 : 0;
            default:
                return discs.isReal(point, now.points) ? 1 : 0;
        }
    }

    public long value(int point, boolean isImaginary) throws IndexOutOfBoundsException {
        if (!now.points.has(point)) {
            throw new IndexOutOfBoundsException("no such point");
        }
        now.poly.reckonAt(now.points.xOf(point), now.points.yOf(point), false, scratch);
        return isImaginary ? scratch.im : scratch.re;
    }

    public long product(int point, boolean isImaginary) throws IndexOutOfBoundsException {
        if (!now.points.has(point)) {
            throw new IndexOutOfBoundsException("no such point");
        }
        now.points.reckonProduct(point, now.poly.leading(), scratch);
        return isImaginary ? scratch.im : scratch.re;
    }

    public long span(int point) throws IndexOutOfBoundsException {
        if (!now.points.has(point)) {
            throw new IndexOutOfBoundsException("no such point");
        }
        return now.points.spanOf(point, now.poly.leading());
    }

    public int step(int point, boolean isY) throws IndexOutOfBoundsException {
        if (!now.points.has(point)) {
            throw new IndexOutOfBoundsException("no such point");
        }
        now.reckonStep(point);
        return isY ? now.stepY : now.stepX;
    }

    public boolean touch(int point, int other) throws IndexOutOfBoundsException {
        if (!now.points.has(point) || !now.points.has(other)) {
            throw new IndexOutOfBoundsException("no such point");
        }
        discs.reckon(now);
        return point == other || discs.areTouching(now.points, point, other, false);
    }

    public int cluster(int point) throws IndexOutOfBoundsException {
        if (!now.points.has(point)) {
            throw new IndexOutOfBoundsException("no such point");
        }
        discs.reckon(now);
        return discs.clusterOf(point);
    }

    public int clusters() {
        discs.reckon(now);
        int found = 0;
        for (int p = 0; p < now.points.count; p++) {
            if (discs.lowestOf(p) == p) {
                found++;
            }
        }
        return found;
    }

    public int settled() {
        discs.reckon(now);
        return discs.settledSet(now.goal);
    }

    public int real() {
        discs.reckon(now);
        int set = 0;
        for (int p = 0; p < now.points.count; p++) {
            if (discs.isReal(p, now.points)) {
                set |= 1 << p;
            }
        }
        return set;
    }

    public int holding(int x, int y) {
        discs.reckon(now);
        int set = 0;
        for (int p = 0; p < now.points.count; p++) {
            if (discs.holds(p, (long) x - now.points.xOf(p), (long) y - now.points.yOf(p))) {
                set |= 1 << p;
            }
        }
        return set;
    }

    public int worst() {
        discs.reckon(now);
        int worst = 0;
        for (int p = 1; p < now.points.count; p++) {
            if (discs.radiusOr(p, MOST_RADIUS + 1) > discs.radiusOr(worst, MOST_RADIUS + 1)) {
                worst = p;
            }
        }
        return worst;
    }

    public int byProduct(int i) {
        int count = now.points.count;
        for (int p = 0; p < count && p < sizes.length; p++) {
            now.points.reckonProduct(p, now.poly.leading(), scratch);
            sizes[p] = Math.abs(scratch.re) + Math.abs(scratch.im);
        }
        for (int p = 0; p < count && p < sizes.length; p++) {
            int before = 0;
            for (int q = 0; q < count && q < sizes.length; q++) {
                if (sizes[q] > sizes[p] || (sizes[q] == sizes[p] && q < p)) {
                    before++;
                }
            }
            if (before == i) {
                return p;
            }
        }
        return NONE;
    }

    public int goal() {
        return now.goal;
    }

    public int rootsIn(int left, int low, int right, int high, boolean isMost) throws IllegalArgumentException {
        if (!isBound(left) || !isBound(low) || !isBound(right) || !isBound(high) || right < left || high < low) {
            throw new IllegalArgumentException("no such bounds");
        }
        discs.reckon(now);
        int within = 0;
        int meeting = 0;
        for (int p = 0; p < now.points.count; p++) {
            int x = now.points.xOf(p);
            int y = now.points.yOf(p);
            int radius = discs.radiusOf(p);
            if (radius == NONE) {
                meeting |= 1 << p;
            } else {
                if (x - radius >= left && x + radius <= right && y - radius >= low && y + radius <= high) {
                    within |= 1 << p;
                }
                if (x - radius <= right && x + radius >= left && y - radius <= high && y + radius >= low) {
                    meeting |= 1 << p;
                }
            }
        }
        return isMost ? discs.countClustersWithAny(meeting) : discs.countClustersOfOnly(within);
    }

    public int sumError() {
        int sum = 0;
        for (int p = 0; p < now.points.count; p++) {
            sum += now.points.xOf(p);
        }
        return now.poly.leading() * sum + UNIT * now.poly.at(now.poly.degree - 1);
    }

    public int visits(int x, int y) {
        return isPlace(x, y) ? now.visits.countOf(x, y) : 0;
    }

    public int places() {
        return now.visits.countPlaces();
    }

    // ---- factors, debts

    public int whyNotDivide(int a) throws IllegalArgumentException {
        if (!isFactor(a)) {
            throw new IllegalArgumentException("no such factor");
        }
        return now.reasonAgainst(a, 0);
    }

    public int whyNotDividePair(int a, int b) throws IllegalArgumentException {
        if (!isPairFactor(a, b)) {
            throw new IllegalArgumentException("no such factor");
        }
        return now.reasonAgainst(a, b);
    }

    public int debts() {
        return now.debts.count;
    }

    public int debt(int k, int what) throws IndexOutOfBoundsException, IllegalArgumentException {
        if (!now.debts.has(k)) {
            throw new IndexOutOfBoundsException("no such debt");
        }
        if (what < 0 || what > 4) {
            throw new IllegalArgumentException("no such number of a debt");
        }
        return now.debts.numberOf(k, what);
    }

    public int recombined(int k) throws IndexOutOfBoundsException {
        if (!now.first.has(k)) {
            throw new IndexOutOfBoundsException("no such coefficient");
        }
        return now.recombine(k);
    }

    public float debtShare() {
        int told = now.first.sumOfSizes();
        if (told == 0) {
            return 0;
        }
        return (float) now.debts.sumOfSizes() / (float) told;
    }

    // ---- what would be; nothing changes

    public int sweepsToSettle(int limit) throws IllegalArgumentException {
        if (limit < 0 || limit > MOST_FORESEEN_SWEEPS) {
            throw new IllegalArgumentException("no such limit");
        }
        trial.copyFrom(now);
        for (int made = 0; made <= limit; made++) {
            discs.reckon(trial);
            if (discs.settledSet(trial.goal) == trial.points.all()) {
                return made;
            }
            // A sweep that moves nothing leaves all later ones nothing to move.
            if (made < limit && trial.sweepOnce() == 0) {
                return NONE;
            }
        }
        return NONE;
    }

    public double meanRadiusBehind() {
        trial.copyFrom(now);
        trial.sweepOnce();
        discs.reckon(trial);
        int count = trial.points.count;
        int sum = 0;
        for (int p = 0; p < count; p++) {
            sum += discs.radiusOr(p, MOST_RADIUS);
        }
        if (count == 0) {
            return 0;
        }
        return (double) sum / (double) count;
    }

    // ---- changes

    public int refine(int point) throws IndexOutOfBoundsException {
        if (!now.points.has(point)) {
            throw new IndexOutOfBoundsException("no such point");
        }
        keepForUndo();
        return now.refineAt(point);
    }

    public int sweep() {
        keepForUndo();
        return now.sweepOnce();
    }

    public int run(int most) throws IllegalArgumentException {
        if (!isRunLength(most)) {
            throw new IllegalArgumentException("no such number of sweeps");
        }
        keepForUndo();
        return sweepUpTo(most);
    }

    public int spread(int length) throws IllegalArgumentException {
        if (!isLength(length)) {
            throw new IllegalArgumentException("no such length");
        }
        keepForUndo();
        return now.lay(0, now.points.count, length);
    }

    public int start() {
        keepForUndo();
        return now.layByEdges();
    }

    public int move(int point, int x, int y)
            throws IndexOutOfBoundsException, IllegalArgumentException, IllegalStateException {
        if (!now.points.has(point)) {
            throw new IndexOutOfBoundsException("no such point");
        }
        if (!isPlace(x, y)) {
            throw new IllegalArgumentException("no such place");
        }
        if (!now.canMove(point, y)) {
            throw new IllegalStateException("a pair lies off the real axis, its first point above");
        }
        keepForUndo();
        return now.moveTo(point, x, y);
    }

    public int join(int point) throws IndexOutOfBoundsException, IllegalStateException {
        if (!now.points.has(point)) {
            throw new IndexOutOfBoundsException("no such point");
        }
        if (!now.canJoin(point)) {
            throw new IllegalStateException("these points cannot be a pair");
        }
        keepForUndo();
        return now.joinAt(point);
    }

    public int part(int point) throws IndexOutOfBoundsException, IllegalStateException {
        if (!now.points.has(point)) {
            throw new IndexOutOfBoundsException("no such point");
        }
        if (now.points.otherOf(point) == NONE) {
            throw new IllegalStateException("the point is in no pair");
        }
        keepForUndo();
        int first = now.points.firstOf(point);
        now.points.partAt(first);
        return first;
    }

    public int divide(int a) throws IllegalArgumentException, IllegalStateException {
        if (!isFactor(a)) {
            throw new IllegalArgumentException("no such factor");
        }
        if (now.reasonAgainst(a, 0) != 0) {
            throw new IllegalStateException("the factor cannot be divided out");
        }
        keepForUndo();
        return now.divideBy(a, 0);
    }

    public int dividePair(int a, int b) throws IllegalArgumentException, IllegalStateException {
        if (!isPairFactor(a, b)) {
            throw new IllegalArgumentException("no such factor");
        }
        if (now.reasonAgainst(a, b) != 0) {
            throw new IllegalStateException("the factor cannot be divided out");
        }
        keepForUndo();
        return now.divideBy(a, b);
    }

    public int setGoal(int goal) throws IllegalArgumentException {
        if (!isGoal(goal)) {
            throw new IllegalArgumentException("no such goal");
        }
        keepForUndo();
        int previous = now.goal;
        now.goal = goal;
        return previous;
    }

    // ---- reports, undo, a saved state

    public int report() {
        discs.reckon(now);
        reportLength = 0;
        for (int p = 0; p < now.points.count; p++) {
            writeNumber(now.points.xOf(p));
            write(' ');
            writeNumber(now.points.yOf(p));
            write(' ');
            if (discs.radiusOf(p) == NONE) {
                write('?');
            } else {
                writeNumber(discs.radiusOf(p));
            }
            if (now.points.otherOf(p) != NONE) {
                write('p');
            }
            if (discs.isReal(p, now.points)) {
                write('r');
            }
            write('\n');
        }
        return reportLength;
    }

    public int reportByte(int i) throws IndexOutOfBoundsException {
        if (i < 0 || i >= reportLength || i >= reportBytes.length) {
            throw new IndexOutOfBoundsException("no such byte");
        }
        return reportBytes[i];
    }

    public int undo() {
        if (pastCount == 0) {
            return NONE;
        }
        pastNext = pastNext == 0 ? MOST_UNDOS - 1 : pastNext - 1;
        pastCount--;
        if (pastNext >= 0 && pastNext < past.length && past[pastNext] != null) {
            now.copyFrom(past[pastNext]);
        }
        return pastCount;
    }

    public int save() {
        saved.copyFrom(now);
        isSaved = true;
        return now.poly.degree;
    }

    public int restore() throws IllegalStateException {
        if (!isSaved) {
            throw new IllegalStateException("nothing was saved");
        }
        now.copyFrom(saved);
        forgetUndos();
        return now.poly.degree;
    }

    // ---- within

    private void keepForUndo() {
        if (pastNext >= 0 && pastNext < past.length && past[pastNext] != null) {
            past[pastNext].copyFrom(now);
        }
        pastNext = pastNext == MOST_UNDOS - 1 ? 0 : pastNext + 1;
        pastCount = pastCount == MOST_UNDOS ? MOST_UNDOS : pastCount + 1;
    }

    private void forgetUndos() {
        pastCount = 0;
    }

    private int sweepUpTo(int most) {
        for (int made = 0; made < most; made++) {
            discs.reckon(now);
            if (discs.settledSet(now.goal) == now.points.all()) {
                return made;
            }
            if (now.sweepOnce() == 0) {
                return made + 1;
            }
        }
        return most;
    }

    /** A reader lets no deeper block through; the guard is there so that this can be seen here. */
    private void runBlock(int from, int to, int depth) {
        if (depth > Script.MOST_DEPTH) {
            return;
        }
        for (int i = from; i < to && !script.isOver; i++) {
            if (script.verbOf(i) == Verb.REPEAT) {
                runRepeat(i, depth);
                i = Math.max(i, script.endOf(i) - 1);
            } else {
                script.tally(obey(script.verbOf(i), script.aOf(i), script.bOf(i), script.cOf(i)));
            }
        }
    }

    private void runRepeat(int i, int depth) {
        for (int time = 0; time < script.aOf(i) && !script.isOver; time++) {
            runBlock(i + 1, script.endOf(i), depth + 1);
        }
    }

    /** Whether the command was done: not where its method would throw, and nothing is changed then. */
    private boolean obey(Verb verb, int a, int b, int c) {
        if (verb == null) {
            return false;
        }
        switch (verb) {
            case REFINE:
                return now.points.has(a) && now.refineAt(a) >= 0;
            case SWEEP:
                return now.sweepOnce() >= 0;
            case RUN:
                return isRunLength(a) && sweepUpTo(a) >= 0;
            case SPREAD:
                return isLength(a) && now.lay(0, now.points.count, a) >= 0;
            case START:
                return now.layByEdges() >= 0;
            case MOVE:
                return now.points.has(a) && isPlace(b, c) && now.canMove(a, c) && now.moveTo(a, b, c) >= 0;
            case DIVIDE:
                return obeyDivide(a, b);
            case GOAL:
                return obeyGoal(a);
            default:
                return false;
        }
    }

    private boolean obeyDivide(int a, int b) {
        boolean isKnown = b == NONE ? isFactor(a) : isPairFactor(a, b);
        int pairPart = b == NONE ? 0 : b;
        return isKnown && now.reasonAgainst(a, pairPart) == 0 && now.divideBy(a, pairPart) >= 0;
    }

    private boolean obeyGoal(int a) {
        if (!isGoal(a)) {
            return false;
        }
        now.goal = a;
        return true;
    }

    private void write(int sign) {
        if (reportLength >= 0 && reportLength < reportBytes.length) {
            reportBytes[reportLength] = (byte) sign;
            reportLength++;
        }
    }

    /** Numbers of a report have at most four digits. */
    private void writeNumber(int number) {
        if (number < 0) {
            write('-');
        }
        int size = number < 0 ? -number : number;
        for (int place = 1000; place >= 1; place /= 10) {
            if (size >= place || place == 1) {
                write('0' + size / place % 10);
            }
        }
    }

    private static boolean isPlace(int x, int y) {
        return x >= -FARTHEST && x <= FARTHEST && y >= -FARTHEST && y <= FARTHEST;
    }

    private static boolean isBound(int number) {
        return number >= -MOST_BOUND && number <= MOST_BOUND;
    }

    private static boolean isFactor(int a) {
        return a >= -MOST_FACTOR && a <= MOST_FACTOR;
    }

    private static boolean isPairFactor(int a, int b) {
        return isFactor(a) && b >= 1 && b <= MOST_FACTOR;
    }

    private static boolean isRunLength(int most) {
        return most >= 1 && most <= MOST_SWEEPS;
    }

    private static boolean isLength(int length) {
        return length >= 1 && length <= FARTHEST;
    }

    private static boolean isGoal(int goal) {
        return goal >= 1 && goal <= MOST_GOAL;
    }

    private static long limit(long number, long most) {
        return number > most ? most : number < -most ? -most : number;
    }

    private static void copy(int[] from, int[] to) {
        for (int i = 0; i < from.length && i < to.length; i++) {
            to[i] = from[i];
        }
    }

    private static final class Complex {
        long re;
        long im;
    }

    /** The coefficients c(0) to c(degree); what lies behind them in the row is 0. */
    private static final class Polynomial {
        int degree;
        final int[] c = new int[MOST_DEGREE + 1];

        void copyFrom(Polynomial other) {
            degree = other.degree;
            copy(other.c, c);
        }

        void clear() {
            degree = 0;
            for (int k = 0; k < c.length; k++) {
                c[k] = 0;
            }
        }

        /** Puts a coefficient in, and lets it be the highest one. */
        void tell(int k, int coefficient) {
            if (k >= 0 && k < c.length) {
                c[k] = coefficient;
                degree = k;
            }
        }

        boolean has(int k) {
            return k >= 0 && k <= degree && k < c.length;
        }

        int at(int k) {
            return k >= 0 && k <= degree && k < c.length ? c[k] : 0;
        }

        int leading() {
            return degree >= 0 && degree < c.length ? c[degree] : 0;
        }

        int sumOfSizes() {
            int sum = 0;
            for (int k = 0; k < c.length; k++) {
                sum += c[k] < 0 ? -c[k] : c[k];
            }
            return sum;
        }

        /** The value, or the slope, by Horner's scheme: no sum in it is larger than the document's own. */
        void reckonAt(int x, int y, boolean isSlope, Complex out) {
            long re = 0;
            long im = 0;
            int lowest = isSlope ? 1 : 0;
            for (int k = c.length - 1; k >= lowest; k--) {
                if (k <= degree) {
                    long turned = re * x - im * y;
                    im = re * y + im * x;
                    long weight = isSlope ? k : 1;
                    re = turned + (weight * c[k] << UNIT_SHIFT * (degree - k));
                }
            }
            out.re = re;
            out.im = im;
        }

        int farthestRoot() {
            int greatest = 0;
            for (int k = 0; k < degree && k < c.length; k++) {
                int size = c[k] < 0 ? -c[k] : c[k];
                greatest = size > greatest ? size : greatest;
            }
            int divisor = leading() < 0 ? -leading() : leading();
            return divisor == 0 ? UNIT : UNIT + (UNIT * greatest + divisor - 1) / divisor;
        }

        int countEdges() {
            int k = 0;
            int edges = 0;
            for (int e = 0; e < MOST_DEGREE && k < degree; e++) {
                k = edgeEnd(k);
                edges++;
            }
            return edges;
        }

        int edgeStart(int edge) {
            int k = 0;
            for (int e = 0; e < edge && e < MOST_DEGREE; e++) {
                k = edgeEnd(k);
            }
            return k;
        }

        /** Only the first edge can begin at a coefficient that is 0: it ends at the lowest other one. */
        int edgeEnd(int from) {
            int best = degree;
            for (int j = degree - 1; j > from; j--) {
                if (at(j) != 0 && (at(from) == 0 || isSteeper(from, j, best))) {
                    best = j;
                }
            }
            return best;
        }

        /** Whether the sizes rise more to j than to the best one so far, which is the greater one of both. */
        private boolean isSteeper(int from, int j, int best) {
            int rise = binaryDigits(at(j)) - binaryDigits(at(from));
            int bestRise = binaryDigits(at(best)) - binaryDigits(at(from));
            return rise * (best - from) > bestRise * (j - from);
        }

        int edgeLength(int from) {
            int to = edgeEnd(from);
            if (at(from) == 0 || to <= from) {
                return 1;
            }
            int power = Math.floorDiv(binaryDigits(at(from)) - binaryDigits(at(to)), to - from);
            if (power >= 3) {
                return FARTHEST;
            }
            if (power >= 0) {
                return UNIT << power;
            }
            return power >= -UNIT_SHIFT ? UNIT >> -power : 1;
        }

        private static int binaryDigits(int coefficient) {
            int size = coefficient < 0 ? -coefficient : coefficient;
            int digits = 0;
            for (int d = 0; d < 31; d++) {
                if (size >> d != 0) {
                    digits = d + 1;
                }
            }
            return digits;
        }

        /**
         * Leaves the quotient by a factor in the row, from the factor's degree on, and the remainder
         * below it; the factor is X - a if b is 0.
         */
        void reckonQuotient(int a, int b, long[] row) {
            int twice = b == 0 ? a : 2 * a;
            int square = b == 0 ? 0 : a * a + b * b;
            int lowest = b == 0 ? 0 : 1;
            for (int k = row.length - 1; k >= 0; k--) {
                long above = k + 1 < row.length ? row[k + 1] : 0;
                long twoAbove = k + 2 < row.length ? row[k + 2] : 0;
                // The remainder's own r1 is no part of the quotient, so r0 is less by it.
                row[k] = at(k) + (k >= lowest ? twice * above : 0) - square * twoAbove;
            }
        }

        void takeQuotient(long[] row, int factorDegree) {
            degree -= factorDegree;
            for (int k = 0; k < c.length; k++) {
                int from = k + factorDegree;
                c[k] = k <= degree && from >= 0 && from < row.length ? (int) row[from] : 0;
            }
        }
    }

    /** The points; the second one of a pair always has the number behind that of the first one. */
    private static final class Points {
        static final int ALONE = 0;
        static final int FIRST = 1;
        static final int SECOND = 2;

        int count;
        final int[] x = new int[MOST_DEGREE];
        final int[] y = new int[MOST_DEGREE];
        final int[] role = new int[MOST_DEGREE];

        void copyFrom(Points other) {
            count = other.count;
            copy(other.x, x);
            copy(other.y, y);
            copy(other.role, role);
        }

        boolean has(int p) {
            return p >= 0 && p < count && p < x.length;
        }

        int all() {
            return (1 << count) - 1;
        }

        int xOf(int p) {
            return p >= 0 && p < count && p < x.length ? x[p] : 0;
        }

        int yOf(int p) {
            return p >= 0 && p < count && p < y.length ? y[p] : 0;
        }

        int roleOf(int p) {
            return p >= 0 && p < count && p < role.length ? role[p] : ALONE;
        }

        int otherOf(int p) {
            int role = roleOf(p);
            return role == FIRST ? p + 1 : role == SECOND ? p - 1 : NONE;
        }

        int firstOf(int p) {
            return roleOf(p) == SECOND ? p - 1 : p;
        }

        void setRole(int p, int newRole) {
            if (p >= 0 && p < count && p < role.length) {
                role[p] = newRole;
            }
        }

        void joinAt(int first) {
            setRole(first, FIRST);
            setRole(first + 1, SECOND);
        }

        void partAt(int first) {
            setRole(first, ALONE);
            setRole(first + 1, ALONE);
        }

        void reckonProduct(int p, int leading, Complex out) {
            long re = leading;
            long im = 0;
            if (p >= 0 && p < count && p < x.length) {
                for (int q = 0; q < count && q < x.length; q++) {
                    if (q != p) {
                        long dx = x[p] - x[q];
                        long dy = y[p] - y[q];
                        long turned = re * dx - im * dy;
                        im = re * dy + im * dx;
                        re = turned;
                    }
                }
            }
            out.re = re;
            out.im = im;
        }

        long spanOf(int p, int leading) {
            long span = leading < 0 ? -leading : leading;
            if (p >= 0 && p < count && p < x.length) {
                for (int q = 0; q < count && q < x.length; q++) {
                    if (q != p) {
                        int dx = x[p] > x[q] ? x[p] - x[q] : x[q] - x[p];
                        int dy = y[p] > y[q] ? y[p] - y[q] : y[q] - y[p];
                        span *= dx > dy ? dx : dy;
                    }
                }
            }
            return span;
        }

        /** The nearest point of a role, the lowest one of several. */
        int nearest(int toX, int toY, int wanted) {
            int nearest = NONE;
            int least = 0;
            for (int p = 0; p < count && p < x.length; p++) {
                if (role[p] == wanted) {
                    int dx = x[p] - toX;
                    int dy = y[p] - toY;
                    int square = dx * dx + dy * dy;
                    if (nearest == NONE || square < least) {
                        nearest = p;
                        least = square;
                    }
                }
            }
            return nearest;
        }

        void remove(int from, int howMany) {
            if (from < 0 || howMany < 1) {
                return;
            }
            for (int p = from; p + howMany < count && p + howMany < x.length; p++) {
                x[p] = x[p + howMany];
                y[p] = y[p + howMany];
                role[p] = role[p + howMany];
            }
            count -= howMany;
        }
    }

    /** Factors that were divided out, and their remainders. */
    private static final class Debts {
        int count;
        final int[] a = new int[MOST_DEBTS];
        final int[] b = new int[MOST_DEBTS];
        final int[] r1 = new int[MOST_DEBTS];
        final int[] r0 = new int[MOST_DEBTS];

        void copyFrom(Debts other) {
            count = other.count;
            copy(other.a, a);
            copy(other.b, b);
            copy(other.r1, r1);
            copy(other.r0, r0);
        }

        boolean has(int k) {
            return k >= 0 && k < count && k < a.length;
        }

        void add(int newA, int newB, int newR1, int newR0) {
            if (count >= 0 && count < a.length) {
                a[count] = newA;
                b[count] = newB;
                r1[count] = newR1;
                r0[count] = newR0;
                count++;
            }
        }

        int numberOf(int k, int what) {
            if (!has(k)) {
                return 0;
            }
            switch (what) {
                case 0:
                    return a[k];
                case 1:
                    return b[k];
                case 2:
                    return r1[k];
                case 3:
                    return r0[k];
                default:
                    return (r1[k] < 0 ? -r1[k] : r1[k]) + (r0[k] < 0 ? -r0[k] : r0[k]);
            }
        }

        int sizeOf(int k) {
            return numberOf(k, 4);
        }

        int sumOfSizes() {
            int sum = 0;
            for (int k = 0; k < count; k++) {
                sum += sizeOf(k);
            }
            return sum;
        }
    }

    /** The latest visits, in a ring; a place is one number, so that a copy is short. */
    private static final class Visits {
        private static final int ROW = 1024;

        int count;
        int next;
        final int[] place = new int[MOST_VISITS];

        void copyFrom(Visits other) {
            count = other.count;
            next = other.next;
            copy(other.place, place);
        }

        void clear() {
            count = 0;
            next = 0;
        }

        void add(int x, int y) {
            if (next >= 0 && next < place.length) {
                place[next] = x * ROW + y;
            }
            next = next >= MOST_VISITS - 1 ? 0 : next + 1;
            count = count >= MOST_VISITS ? MOST_VISITS : count + 1;
        }

        int countOf(int x, int y) {
            int wanted = x * ROW + y;
            int found = 0;
            for (int i = 0; i < count && i < place.length; i++) {
                if (place[i] == wanted) {
                    found++;
                }
            }
            return found;
        }

        int countPlaces() {
            int places = 0;
            for (int i = 0; i < count && i < place.length; i++) {
                int before = 0;
                while (before < i && place[before] != place[i]) {
                    before++;
                }
                if (before == i) {
                    places++;
                }
            }
            return places;
        }
    }

    /** All that can be undone and saved, and the changes of it. */
    private static final class State {
        final Polynomial first = new Polynomial();
        final Polynomial poly = new Polynomial();
        final Points points = new Points();
        final Debts debts = new Debts();
        final Visits visits = new Visits();
        int goal;

        // What the latest reckoning left; no part of what is kept.
        private final Complex value = new Complex();
        private final Complex product = new Complex();
        private final long[] row = new long[MOST_DEGREE + 1];
        int stepX;
        int stepY;

        void copyFrom(State other) {
            first.copyFrom(other.first);
            poly.copyFrom(other.poly);
            points.copyFrom(other.points);
            debts.copyFrom(other.debts);
            visits.copyFrom(other.visits);
            goal = other.goal;
        }

        void clear() {
            first.clear();
            poly.clear();
            points.count = 0;
            debts.count = 0;
            visits.clear();
            goal = USUAL_GOAL;
        }

        void beginAsNew() {
            clear();
            tellCoefficient(0, -1);
            tellCoefficient(1, 0);
            tellCoefficient(2, 1);
            tellPoint(2 * UNIT, 0, Points.ALONE);
            tellPoint(-2 * UNIT, 0, Points.ALONE);
        }

        void tellCoefficient(int k, int coefficient) {
            first.tell(k, coefficient);
            poly.tell(k, coefficient);
        }

        void tellPoint(int x, int y, int role) {
            int p = points.count;
            if (p >= 0 && p < points.x.length) {
                points.x[p] = x;
                points.y[p] = y;
                points.role[p] = role;
                points.count = p + 1;
                visits.add(x, y);
            }
        }

        /** How many points moved: 1, or 0 if the point lies there already. */
        private int place(int p, int x, int y) {
            if (!points.has(p) || (points.x[p] == x && points.y[p] == y)) {
                return 0;
            }
            points.x[p] = x;
            points.y[p] = y;
            visits.add(x, y);
            return 1;
        }

        void reckonStep(int p) {
            stepX = 0;
            stepY = 0;
            points.reckonProduct(p, poly.leading(), product);
            long c = product.re;
            long d = product.im;
            if (c == 0 && d == 0) {
                return;
            }
            poly.reckonAt(points.xOf(p), points.yOf(p), false, value);
            long a = value.re;
            long b = value.im;
            for (int h = 0; h < MOST_HALVINGS && (c > MOST_PART_OF_PRODUCT || c < -MOST_PART_OF_PRODUCT
                    || d > MOST_PART_OF_PRODUCT || d < -MOST_PART_OF_PRODUCT); h++) {
                a /= 2;
                b /= 2;
                c /= 2;
                d /= 2;
            }
            a = limit(a, MOST_PART_OF_VALUE);
            b = limit(b, MOST_PART_OF_VALUE);
            long square = c * c + d * d;
            if (square != 0) {
                stepX = (int) limit((a * c + b * d) / square, MOST_STEP);
                stepY = (int) limit((b * c - a * d) / square, MOST_STEP);
            }
        }

        int refineAt(int point) {
            int p = points.firstOf(point);
            reckonStep(p);
            int x = (int) limit(points.xOf(p) - stepX, FARTHEST);
            int y = (int) limit(points.yOf(p) - stepY, FARTHEST);
            if (points.roleOf(p) != Points.FIRST) {
                return place(p, x, y);
            }
            if (y >= 1) {
                return place(p, x, y) + place(p + 1, x, -y);
            }
            points.partAt(p);
            return place(p, (int) limit(x - 1, FARTHEST), 0) + place(p + 1, (int) limit(x + 1, FARTHEST), 0);
        }

        int sweepOnce() {
            int moved = 0;
            for (int p = 0; p < points.count; p++) {
                boolean isPair = points.roleOf(p) == Points.FIRST;
                moved += refineAt(p);
                if (isPair) {
                    p++;
                }
            }
            return moved;
        }

        int lay(int from, int howMany, int length) {
            int pairs = howMany / 2;
            int moved = 0;
            for (int k = 0; k < pairs; k++) {
                int p = from + 2 * k;
                int x = 2 * length * (k + 1) / (pairs + 1) - length;
                points.joinAt(p);
                moved += place(p, x, length) + place(p + 1, x, -length);
            }
            if (howMany % 2 == 1) {
                points.setRole(from + howMany - 1, Points.ALONE);
                moved += place(from + howMany - 1, -length, 0);
            }
            return moved;
        }

        int layByEdges() {
            int moved = 0;
            int from = 0;
            for (int e = 0; e < MOST_DEGREE && from < poly.degree; e++) {
                int to = poly.edgeEnd(from);
                moved += lay(from, to - from, poly.edgeLength(from));
                from = to;
            }
            return moved;
        }

        boolean canMove(int p, int y) {
            int role = points.roleOf(p);
            return role == Points.ALONE || (role == Points.FIRST ? y >= 1 : y <= -1);
        }

        int moveTo(int p, int x, int y) {
            int role = points.roleOf(p);
            if (role == Points.FIRST) {
                return place(p, x, y) + place(p + 1, x, -y);
            }
            if (role == Points.SECOND) {
                return place(p - 1, x, -y) + place(p, x, y);
            }
            return place(p, x, y);
        }

        boolean canJoin(int p) {
            return points.has(p) && points.has(p + 1) && points.roleOf(p) == Points.ALONE
                    && points.roleOf(p + 1) == Points.ALONE && points.yOf(p) >= 1;
        }

        int joinAt(int p) {
            points.joinAt(p);
            place(p + 1, points.xOf(p), -points.yOf(p));
            return points.yOf(p + 1);
        }

        private int nearestFor(int a, int b) {
            return points.nearest(UNIT * a, UNIT * b, b == 0 ? Points.ALONE : Points.FIRST);
        }

        int reasonAgainst(int a, int b) {
            int factorDegree = b == 0 ? 1 : 2;
            if (poly.degree <= factorDegree) {
                return 1;
            }
            if (nearestFor(a, b) == NONE) {
                return 2;
            }
            poly.reckonQuotient(a, b, row);
            for (int k = factorDegree; k < row.length; k++) {
                if (row[k] > MOST_COEFFICIENT || row[k] < -MOST_COEFFICIENT) {
                    return 3;
                }
            }
            return 0;
        }

        /** Only where there is no reason against it. */
        int divideBy(int a, int b) {
            int factorDegree = b == 0 ? 1 : 2;
            poly.reckonQuotient(a, b, row);
            int r1 = b == 0 || row.length < 2 ? 0 : (int) row[1];
            int r0 = row.length < 1 ? 0 : (int) row[0];
            debts.add(a, b, r1, r0);
            points.remove(nearestFor(a, b), factorDegree);
            poly.takeQuotient(row, factorDegree);
            return debts.sizeOf(debts.count - 1);
        }

        int recombine(int wanted) {
            for (int k = 0; k < row.length; k++) {
                row[k] = poly.at(k);
            }
            for (int d = debts.count - 1; d >= 0; d--) {
                multiplyRow(debts.numberOf(d, 0), debts.numberOf(d, 1));
                for (int k = 0; k < 2 && k < row.length; k++) {
                    row[k] += debts.numberOf(d, 3 - k);
                }
            }
            return wanted >= 0 && wanted < row.length ? (int) row[wanted] : 0;
        }

        /** From the top down, so that each place still finds the old numbers below it. */
        private void multiplyRow(int a, int b) {
            for (int k = row.length - 1; k >= 0; k--) {
                long below = k >= 1 ? row[k - 1] : 0;
                long twoBelow = k >= 2 ? row[k - 2] : 0;
                row[k] = b == 0 ? below - a * row[k] : twoBelow - 2 * a * below + (a * a + b * b) * row[k];
            }
        }
    }

    /** Radii and clusters of the points of a state, as they were when it was reckoned. */
    private static final class Discs {
        private int count;
        private final int[] radius = new int[MOST_DEGREE];
        private final int[] cluster = new int[MOST_DEGREE];
        private final Complex value = new Complex();

        void reckon(State state) {
            count = state.points.count;
            for (int p = 0; p < count && p < radius.length; p++) {
                radius[p] = reckonRadius(state, p);
            }
            for (int p = 0; p < count && p < cluster.length; p++) {
                int set = 1 << p;
                for (int q = 0; q < count; q++) {
                    if (q != p && areTouching(state.points, p, q, false)) {
                        set |= 1 << q;
                    }
                }
                cluster[p] = set;
            }
            for (int by = 0; by < count && by < cluster.length; by++) {
                for (int p = 0; p < count && p < cluster.length; p++) {
                    if ((cluster[p] >> by & 1) == 1) {
                        cluster[p] |= cluster[by];
                    }
                }
            }
        }

        private int reckonRadius(State state, int p) {
            long span = state.points.spanOf(p, state.poly.leading());
            if (span == 0) {
                return NONE;
            }
            state.poly.reckonAt(state.points.xOf(p), state.points.yOf(p), false, value);
            long size = (value.re < 0 ? -value.re : value.re) + (value.im < 0 ? -value.im : value.im);
            long reach = state.poly.degree * ((size + span - 1) / span);
            return reach > MOST_RADIUS ? NONE : (int) reach;
        }

        int radiusOf(int p) {
            return p >= 0 && p < count && p < radius.length ? radius[p] : NONE;
        }

        int radiusOr(int p, int without) {
            int known = radiusOf(p);
            return known == NONE ? without : known;
        }

        int clusterOf(int p) {
            return p >= 0 && p < count && p < cluster.length ? cluster[p] : 0;
        }

        int lowestOf(int p) {
            int set = clusterOf(p);
            for (int q = 0; q < count; q++) {
                if ((set >> q & 1) == 1) {
                    return q;
                }
            }
            return p;
        }

        private boolean isByItself(int p) {
            return clusterOf(p) == 1 << p;
        }

        /** Whether the disc of p, or its mirrored one, touches that of another point q. */
        boolean areTouching(Points points, int p, int q, boolean isMirrored) {
            int radiusP = radiusOf(p);
            int radiusQ = radiusOf(q);
            if (radiusP == NONE || radiusQ == NONE) {
                return true;
            }
            int dx = points.xOf(p) - points.xOf(q);
            int dy = (isMirrored ? -points.yOf(p) : points.yOf(p)) - points.yOf(q);
            int reach = radiusP + radiusQ;
            return dx * dx + dy * dy <= reach * reach;
        }

        boolean isSettled(int p, int goal) {
            int known = radiusOf(p);
            return known != NONE && known <= goal && isByItself(p);
        }

        int settledSet(int goal) {
            int set = 0;
            for (int p = 0; p < count; p++) {
                if (isSettled(p, goal)) {
                    set |= 1 << p;
                }
            }
            return set;
        }

        boolean isReal(int p, Points points) {
            int known = radiusOf(p);
            int y = points.yOf(p);
            if (known == NONE || known < (y < 0 ? -y : y) || points.otherOf(p) != NONE || !isByItself(p)) {
                return false;
            }
            for (int q = 0; q < count; q++) {
                if (q != p && areTouching(points, p, q, true)) {
                    return false;
                }
            }
            return true;
        }

        /** dx and dy may be as large as any two ints are apart, and their squares then no longs. */
        boolean holds(int p, long dx, long dy) {
            int known = radiusOf(p);
            if (known == NONE || dx > known || dx < -known || dy > known || dy < -known) {
                return false;
            }
            return dx * dx + dy * dy <= (long) known * known;
        }

        int countClustersWithAny(int set) {
            int found = 0;
            for (int p = 0; p < count; p++) {
                if ((clusterOf(p) & set) != 0) {
                    found++;
                }
            }
            return found;
        }

        int countClustersOfOnly(int set) {
            int found = 0;
            for (int p = 0; p < count; p++) {
                if ((clusterOf(p) & ~set) == 0) {
                    found++;
                }
            }
            return found;
        }
    }

    /** The buffer, the token at which it is read, and the first error that was found in it. */
    private static final class Text {
        static final int END = -1;
        static final int INVALID = 0;
        static final int WORD = 1;
        static final int NUMBER = 2;
        private static final int MOST_LETTERS = 8;
        private static final int MOST_DIGITS = 4;

        int length;
        private final byte[] bytes = new byte[MOST_BYTES];
        /** One of the four kinds, or the sign itself. */
        int kind;
        /** The number that was read last. */
        int number;
        int errorCode;
        int errorPosition = NONE;
        private int start;
        private int behind;

        boolean hasRoomFor(int more) {
            return length + more <= MOST_BYTES;
        }

        void append(int fourBytes) {
            for (int shift = 24; shift >= 0; shift -= 8) {
                if (length >= 0 && length < bytes.length) {
                    bytes[length] = (byte) (fourBytes >> shift);
                    length++;
                }
            }
        }

        void begin() {
            errorCode = 0;
            errorPosition = NONE;
            behind = 0;
            advance();
        }

        /** Tells an error at the present token; always false, so that a reader can hand it on. */
        boolean fail(int code) {
            errorCode = code;
            errorPosition = start;
            return false;
        }

        private int byteAt(int i) {
            return i >= 0 && i < length && i < bytes.length ? bytes[i] & 255 : END;
        }

        private static boolean isBlank(int sign) {
            return sign == ' ' || sign == '\n';
        }

        private static boolean isLetter(int sign) {
            return sign >= 'a' && sign <= 'z';
        }

        private static boolean isDigit(int sign) {
            return sign >= '0' && sign <= '9';
        }

        void advance() {
            start = behind;
            while (start < length && isBlank(byteAt(start))) {
                start++;
            }
            behind = start < length ? start + 1 : start;
            int sign = byteAt(start);
            if (sign == END) {
                kind = END;
            } else if (isLetter(sign)) {
                while (behind < length && isLetter(byteAt(behind))) {
                    behind++;
                }
                kind = behind - start <= MOST_LETTERS ? WORD : INVALID;
            } else if (isDigit(sign)) {
                while (behind < length && isDigit(byteAt(behind))) {
                    behind++;
                }
                kind = behind - start <= MOST_DIGITS ? NUMBER : INVALID;
            } else {
                kind = sign == ';' || sign == '-' || sign == '(' || sign == ')' ? sign : INVALID;
            }
        }

        boolean isWord(String word) {
            if (kind != WORD || behind - start != word.length()) {
                return false;
            }
            for (int i = 0; i < word.length(); i++) {
                if (word.charAt(i) != byteAt(start + i)) {
                    return false;
                }
            }
            return true;
        }

        boolean readsSign(int sign) {
            if (kind != sign) {
                return fail(1);
            }
            advance();
            return true;
        }

        /** Reads an N or an S. */
        boolean readsNumber(boolean isSigned, int least, int most) {
            int factor = 1;
            if (isSigned && kind == '-') {
                factor = -1;
                advance();
            }
            if (kind != NUMBER) {
                return fail(1);
            }
            int size = 0;
            for (int i = start; i < behind; i++) {
                size = 10 * size + byteAt(i) - '0';
            }
            number = factor * size;
            if (number < least || number > most) {
                return fail(2);
            }
            advance();
            return true;
        }
    }

    /** Reads a text into a state. */
    private static final class TextReader {
        private boolean isGoalTold;

        boolean reads(Text text, State draft) {
            draft.clear();
            isGoalTold = false;
            text.begin();
            if (!readsPoly(text, draft)) {
                return false;
            }
            for (int i = 0; i < MOST_BYTES && text.kind != Text.END; i++) {
                if (!readsStatement(text, draft)) {
                    return false;
                }
            }
            return draft.points.count >= draft.poly.degree || text.fail(5);
        }

        private boolean readsPoly(Text text, State draft) {
            if (!text.isWord("poly")) {
                return text.fail(1);
            }
            text.advance();
            for (int k = 0; k <= MOST_DEGREE && (k < 2 || text.kind != ';'); k++) {
                if (!text.readsNumber(true, -MOST_TOLD, MOST_TOLD)) {
                    return false;
                }
                draft.tellCoefficient(k, text.number);
            }
            if (text.kind == ';' && draft.poly.leading() == 0) {
                return text.fail(3);
            }
            return text.readsSign(';');
        }

        private boolean readsStatement(Text text, State draft) {
            if (text.isWord("at")) {
                return readsPoints(text, draft, false);
            }
            if (text.isWord("pair")) {
                return readsPoints(text, draft, true);
            }
            if (text.isWord("goal")) {
                return readsGoal(text, draft);
            }
            return text.fail(1);
        }

        private boolean readsPoints(Text text, State draft, boolean isPair) {
            if (draft.points.count + (isPair ? 2 : 1) > draft.poly.degree) {
                return text.fail(6);
            }
            text.advance();
            if (!text.readsNumber(true, -FARTHEST, FARTHEST)) {
                return false;
            }
            int x = text.number;
            if (!text.readsNumber(true, isPair ? 1 : -FARTHEST, FARTHEST)) {
                return false;
            }
            int y = text.number;
            draft.tellPoint(x, y, isPair ? Points.FIRST : Points.ALONE);
            if (isPair) {
                draft.tellPoint(x, -y, Points.SECOND);
            }
            return text.readsSign(';');
        }

        private boolean readsGoal(Text text, State draft) {
            if (isGoalTold) {
                return text.fail(3);
            }
            isGoalTold = true;
            text.advance();
            if (!text.readsNumber(false, 1, MOST_GOAL)) {
                return false;
            }
            draft.goal = text.number;
            return text.readsSign(';');
        }
    }

    /** The words that begin a command, with how many numbers N and S stand behind them. */
    private enum Verb {
        REFINE("refine", 1, 0),
        SWEEP("sweep", 0, 0),
        RUN("run", 1, 0),
        SPREAD("spread", 1, 0),
        START("start", 0, 0),
        MOVE("move", 1, 2),
        DIVIDE("divide", 0, 1),
        GOAL("goal", 1, 0),
        REPEAT("repeat", 1, 0);

        private static final Verb[] ALL = values();

        final String word;
        final int numbers;
        final int signed;

        Verb(String word, int numbers, int signed) {
            this.word = word;
            this.numbers = numbers;
            this.signed = signed;
        }
    }

    /** The commands of a script in their order, and how far it has been run. */
    private static final class Script {
        static final int MOST_DEPTH = 2;
        private static final int MOST_COMMANDS = 30;
        private static final int MOST_DONE = 40;
        private static final int MOST_TIMES = 20;
        private static final int MOST_NUMBER = 9999;

        int count;
        int done;
        boolean isOver;
        private final Verb[] verb = new Verb[MOST_COMMANDS];
        private final int[] a = new int[MOST_COMMANDS];
        private final int[] b = new int[MOST_COMMANDS];
        private final int[] c = new int[MOST_COMMANDS];
        /** Where the commands within a "repeat" end. */
        private final int[] end = new int[MOST_COMMANDS];

        boolean reads(Text text) {
            count = 0;
            done = 0;
            isOver = false;
            text.begin();
            return readsBlock(text, Text.END, 0);
        }

        private boolean readsBlock(Text text, int closing, int depth) {
            for (int i = 0; i <= MOST_COMMANDS && text.kind != closing; i++) {
                if (!readsCommand(text, depth)) {
                    return false;
                }
            }
            return true;
        }

        private boolean readsCommand(Text text, int depth) {
            Verb found = verbAt(text);
            if (found == null) {
                return text.fail(1);
            }
            if (found == Verb.REPEAT && depth >= MOST_DEPTH) {
                return text.fail(4);
            }
            if (count < 0 || count >= MOST_COMMANDS || count >= verb.length) {
                return text.fail(6);
            }
            int i = count;
            count++;
            verb[i] = found;
            text.advance();
            if (found == Verb.REPEAT) {
                return readsRepeat(text, i, depth);
            }
            return readsArguments(text, found, i) && text.readsSign(';');
        }

        private boolean readsRepeat(Text text, int i, int depth) {
            if (!text.readsNumber(false, 1, MOST_TIMES)) {
                return false;
            }
            put(a, i, text.number);
            if (!text.readsSign('(') || !readsBlock(text, ')', depth + 1) || !text.readsSign(')')) {
                return false;
            }
            put(end, i, count);
            return text.readsSign(';');
        }

        /** The numbers go to a, b and c in their order; b is NONE behind a "divide" without "pair". */
        private boolean readsArguments(Text text, Verb found, int i) {
            put(b, i, NONE);
            for (int k = 0; k < found.numbers + found.signed; k++) {
                boolean isSigned = k >= found.numbers;
                if (!text.readsNumber(isSigned, isSigned ? -MOST_NUMBER : 0, MOST_NUMBER)) {
                    return false;
                }
                put(k == 0 ? a : k == 1 ? b : c, i, text.number);
            }
            if (found == Verb.DIVIDE && text.isWord("pair")) {
                text.advance();
                if (!text.readsNumber(false, 0, MOST_NUMBER)) {
                    return false;
                }
                put(b, i, text.number);
            }
            return true;
        }

        private static Verb verbAt(Text text) {
            for (int v = 0; v < Verb.ALL.length; v++) {
                Verb candidate = Verb.ALL[v];
                if (candidate != null && text.isWord(candidate.word)) {
                    return candidate;
                }
            }
            return null;
        }

        private static void put(int[] row, int i, int number) {
            if (i >= 0 && i < row.length) {
                row[i] = number;
            }
        }

        private int get(int[] row, int i) {
            return i >= 0 && i < count && i < row.length ? row[i] : 0;
        }

        Verb verbOf(int i) {
            return i >= 0 && i < count && i < verb.length ? verb[i] : null;
        }

        int aOf(int i) {
            return get(a, i);
        }

        int bOf(int i) {
            return get(b, i);
        }

        int cOf(int i) {
            return get(c, i);
        }

        int endOf(int i) {
            return get(end, i);
        }

        /** A script ends at a command that was not done, and when enough were done. */
        void tally(boolean isDone) {
            done += isDone ? 1 : 0;
            isOver = !isDone || done >= MOST_DONE;
        }
    }
}
