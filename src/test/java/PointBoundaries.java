/** Boundary cases of the polynomial, the points, the steps and the discs: sections 1 to 3, promises 8 to 34. */
final class PointBoundaries extends Checks {
    private PointBoundaries() {
    }

    /** A text with so many points at (0, 0). */
    private static String text(String poly, int points) {
        StringBuilder s = new StringBuilder("poly ").append(poly).append(';');
        for (int p = 0; p < points; p++) {
            s.append("at 0 0;");
        }
        return s.toString();
    }

    // ---- the polynomial: section 1, promises 8 to 16

    static void degrees() {
        about(8, "It has a degree n (1 to 6) and coefficients c(0) to c(n), whole numbers; c(n) is not 0.");
        StringBuilder poly = new StringBuilder("0");
        for (int n = 1; n <= 6; n++) {
            poly.append(n == 1 ? " -1" : " 1");
            RootDiscs d = put(new RootDiscs(), text(poly.toString(), n));
            is(n, d.readText());
            is(n, d.degree());
            is(n, d.firstDegree());
        }
    }

    static void degreesBehindDivisions() {
        about(10, "Returns the degree of the polynomial as the text told it.");
        RootDiscs d = of(text("1 2 3 4 5 6 7", 6));
        for (int n = 5; n >= 1; n--) {
            d.divide(0);
            is(n, d.degree());
            is(6, d.firstDegree());
        }
        fails(STATE, () -> d.divide(0));
        is(1, d.degree());
        is(4, d.undo());
        is(2, d.degree());
        is(6, d.firstDegree());
    }

    static void coefficientNumbers() {
        about(9, "@throws IndexOutOfBoundsException if k is not 0 to the degree.");
        RootDiscs d = of(text("9 8 7 6 5 4 3", 6));
        for (int k = 0; k <= 6; k++) {
            is(9 - k, d.coefficient(k));
        }
        refuses(INDEX, e -> e.coefficient(-1));
        refuses(INDEX, e -> e.coefficient(e.degree() + 1));
        fails(INDEX, () -> d.coefficient(7));
        fails(INDEX, () -> d.coefficient(MOST));
        fails(INDEX, () -> d.coefficient(LEAST));
        d.divide(0);
        is(8, d.coefficient(0));
        is(3, d.coefficient(5));
        fails(INDEX, () -> d.coefficient(6));
        RootDiscs one = of(text("-99 99", 1));
        is(-99, one.coefficient(0));
        is(99, one.coefficient(1));
        fails(INDEX, () -> one.coefficient(2));
    }

    static void firstCoefficientNumbers() {
        about(11, "Returns its coefficient k. @throws IndexOutOfBoundsException if k is not 0 to that degree.");
        RootDiscs d = of(text("9 8 7 6 5 4 3", 6));
        d.divide(0);
        d.divide(0);
        for (int k = 0; k <= 6; k++) {
            is(9 - k, d.firstCoefficient(k));
        }
        fails(INDEX, () -> d.firstCoefficient(7));
        fails(INDEX, () -> d.firstCoefficient(-1));
        fails(INDEX, () -> d.firstCoefficient(MOST));
        fails(INDEX, () -> d.firstCoefficient(LEAST));
        refuses(INDEX, e -> e.firstCoefficient(6));
        refuses(INDEX, e -> e.firstCoefficient(-1));
        fails(INDEX, () -> of(text("1 1", 1)).firstCoefficient(2));
    }

    static void valuesAtTheCorners() {
        about(12, "The value at a point is V(Z), the sum, over all k, of c(k) * Z to the power k * 32 to the power (n - k).");
        RootDiscs d = of(text("99 99 99 99 99 99 99", 6));
        // With W = Z / 32 = 8 + 8i: W^2 = 128i, W^3 = -1024 + 1024i, W^4 = -16384, W^5 = -131072 (1 + i), W^6 = -2097152i.
        is(-148471L * 99 << 30, d.valueAt(256, 256, false));
        is(-2227064L * 99 << 30, d.valueAt(256, 256, true));
        is(-148471L * 99 << 30, d.valueAt(256, -256, false));
        is(2227064L * 99 << 30, d.valueAt(256, -256, true));
        is(115705L * 99 << 30, d.valueAt(-256, -256, false));
        is(-1966984L * 99 << 30, d.valueAt(-256, -256, true));
        is(99L << 30, d.valueAt(0, 0, false));
        is(0, d.valueAt(0, 0, true));
        RootDiscs minus = of(text("-99 -99 -99 -99 -99 -99 -99", 6));
        is(148471L * 99 << 30, minus.valueAt(256, 256, false));
        is(2227064L * 99 << 30, minus.valueAt(256, 256, true));
        RootDiscs one = of(text("-99 -99", 1));
        is(-99L * 288, one.valueAt(256, -256, false));
        is(99L * 256, one.valueAt(256, -256, true));
    }

    static void valuesOfLargeQuotients() {
        about(12, "(So it is the value of the polynomial at Z / 32, times 32 to the power n.)");
        // Divided by X - 8: 19, 152, 1249, 9999 and the remainder 79992.
        RootDiscs d = of(text("0 7 33 0 19", 4));
        is(79992, d.divide(8));
        isPolynomial(d, 9999, 1249, 152, 19);
        is(9999L << 15, d.valueAt(0, 0, false));
        // At 8: 9999 + 9992 + 9728 + 9728.
        is(39447L << 15, d.valueAt(256, 0, false));
        is(1249L << 10, d.slopeAt(0, 0, false));
    }

    static void valuePlaces() {
        about(12, "Throws `IllegalArgumentException` if x or y is out of range");
        for (int edge : new int[] {-256, 256}) {
            int beyond = edge < 0 ? -257 : 257;
            RootDiscs d = new RootDiscs();
            is(edge * edge - 1024, d.valueAt(edge, 0, false));
            is(-edge * edge - 1024, d.valueAt(0, edge, false));
            is(2 * edge * edge, d.valueAt(edge, edge, true));
            refuses(ARGUMENT, e -> e.valueAt(beyond, 0, false));
            refuses(ARGUMENT, e -> e.valueAt(0, beyond, true));
            fails(ARGUMENT, () -> d.valueAt(beyond, beyond, false));
        }
        RootDiscs d = new RootDiscs();
        for (int far : new int[] {LEAST, MOST, 65536, -65536}) {
            fails(ARGUMENT, () -> d.valueAt(far, 0, false));
            fails(ARGUMENT, () -> d.valueAt(0, far, true));
        }
    }

    static void slopesAtTheCorners() {
        about(13, "Returns a part of the sum, over all k from 1 on, of k * c(k) * Z to the power (k - 1) * 32 to the power (n - k)");
        RootDiscs d = of(text("99 99 99 99 99 99 99", 6));
        // With W = 8 + 8i: 1 + 2 W + 3 W^2 + 4 W^3 + 5 W^4 + 6 W^5.
        is(-872431L * 99 << 25, d.slopeAt(256, 256, false));
        is(-781936L * 99 << 25, d.slopeAt(256, 256, true));
        is(-872431L * 99 << 25, d.slopeAt(256, -256, false));
        is(781936L * 99 << 25, d.slopeAt(256, -256, true));
        is(99L << 25, d.slopeAt(0, 0, false));
        is(0, d.slopeAt(0, 0, true));
        // The slope of a degree 1 is c(1) at every place, and 0 has no part in it.
        RootDiscs one = of(text("77 -99", 1));
        is(-99, one.slopeAt(-256, 256, false));
        is(0, one.slopeAt(-256, 256, true));
    }

    static void slopePlaces() {
        about(13, "Throws `IllegalArgumentException` if x or y is out of range");
        for (int edge : new int[] {-256, 256}) {
            int beyond = edge < 0 ? -257 : 257;
            RootDiscs d = new RootDiscs();
            is(2 * edge, d.slopeAt(edge, 0, false));
            is(2 * edge, d.slopeAt(0, edge, true));
            is(0, d.slopeAt(0, edge, false));
            refuses(ARGUMENT, e -> e.slopeAt(beyond, 0, true));
            refuses(ARGUMENT, e -> e.slopeAt(0, beyond, false));
            fails(ARGUMENT, () -> d.slopeAt(beyond, beyond, false));
        }
        RootDiscs d = new RootDiscs();
        for (int far : new int[] {LEAST, MOST}) {
            fails(ARGUMENT, () -> d.slopeAt(far, 0, false));
            fails(ARGUMENT, () -> d.slopeAt(0, far, true));
        }
    }

    /** The edges, each as "from-to:length". */
    private static String edges(RootDiscs d) {
        StringBuilder s = new StringBuilder();
        for (int i = 0; i < d.edges(); i++) {
            s.append(i == 0 ? "" : " ").append(d.edge(i, 0)).append('-').append(d.edge(i, 1)).append(':').append(d.edge(i, 2));
        }
        return s.toString();
    }

    static void edgesFromZeros() {
        about(14, "If c(0) is 0, the first edge goes from 0 to the lowest k with c(k) not 0, with the length 1.");
        isText("0-1:1", edges(of(text("0 -1", 1))));
        isText("0-6:1", edges(of(text("0 0 0 0 0 0 99", 6))));
        isText("0-1:1 1-2:128", edges(of(text("0 4 1", 2))));
        isText("0-5:1 5-6:1", edges(of(text("0 0 0 0 0 1 99", 6))));
        isText("0-2:1 2-4:16", edges(of(text("0 0 -1 0 -2", 4))));
    }

    static void edgesOfFractions() {
        about(14, "compared as fractions, is greatest (the greatest j of several), until n is reached");
        // The sizes are 1, 2, 3, 4, 5, 6, 7: all rise by 1, so one edge takes all.
        isText("0-6:16", edges(of(text("1 2 4 8 16 32 64", 6))));
        isText("0-6:64", edges(of(text("64 32 16 8 4 2 1", 6))));
        // 3/2 is more than 4/3 and than 1, though all are 1 rounded down.
        isText("0-2:8 2-3:16", edges(of(text("1 2 8 16", 3))));
        // -1/2 is more than -2/3 and than -1, though all are -1 rounded down.
        isText("0-2:32 2-3:64", edges(of(text("4 2 2 1", 3))));
        isText("0-2:32 2-3:64", edges(of(text("-4 -2 -2 -1", 3))));
        // 2/2 and 1/1 are the same: the greatest j.
        isText("0-2:16", edges(of(text("1 2 4", 2))));
        // Sizes 1, 7, 1, 7, 1, 1, 1: to 1, on to 3, and from there -6/3 is more than -6 and -6/2.
        isText("0-1:1 1-3:32 3-6:128", edges(of(text("1 99 1 99 1 1 1", 6))));
        // From 2, c(3) and c(4) are 0 and no ends of an edge.
        isText("0-2:16 2-5:32", edges(of(text("1 0 4 0 0 1", 5))));
        isText("0-6:32", edges(of(text("1 0 0 0 0 0 1", 6))));
        // The sizes 1, 4, 6, 7, 7, 6, 4 rise less each time: an edge to each k.
        isText("0-1:4 1-2:8 2-3:16 3-4:32 4-5:64 5-6:128", edges(of(text("1 8 32 64 64 32 8", 6))));
    }

    static void edgeSizes() {
        about(14, "the size of a coefficient that is not 0 is the number of binary digits of its absolute value.");
        // For c(0) + X, the length is 32 * 2 to the power (the size - 1), at most 256.
        int[] constants = {1, 2, 3, 4, 7, 8, 15, 16, 63, 64, 99};
        int[] lengths = {32, 64, 64, 128, 128, 256, 256, 256, 256, 256, 256};
        for (int i = 0; i < constants.length; i++) {
            isText("0-1:" + lengths[i], edges(of(text(constants[i] + " 1", 1))));
            isText("0-1:" + lengths[i], edges(of(text("-" + constants[i] + " -1", 1))));
        }
    }

    static void edgeLengths() {
        about(15, "divided by j - k and rounded down, its length is 32 * 2 to the power q, but at least 1 and at most 256");
        // For 1 + c(1) * X, q is 1 less the size: 32, 16, 8, 4, 2, 1, and 1 also for -6.
        int[] leading = {1, 2, 3, 4, 7, 8, 15, 16, 31, 32, 63, 64, 99};
        int[] lengths = {32, 16, 16, 8, 8, 4, 4, 2, 2, 1, 1, 1, 1};
        for (int i = 0; i < leading.length; i++) {
            isText("0-1:" + lengths[i], edges(of(text("1 " + leading[i], 1))));
            isText("0-1:" + lengths[i], edges(of(text("1 -" + leading[i], 1))));
        }
        // Quotients rounded down: 1/2 to 0, -1/2 to -1, 3/2 to 1, -3/2 to -2, -1/6 to -1, -6/6 to -1.
        isText("0-2:32", edges(of(text("2 0 1", 2))));
        isText("0-2:16", edges(of(text("1 0 2", 2))));
        isText("0-2:64", edges(of(text("8 0 1", 2))));
        isText("0-2:8", edges(of(text("1 0 8", 2))));
        isText("0-6:16", edges(of(text("1 0 0 0 0 0 2", 6))));
        isText("0-6:16", edges(of(text("1 0 0 0 0 0 64", 6))));
        isText("0-5:8", edges(of(text("1 0 0 0 0 64", 5))));
        isText("0-6:64", edges(of(text("64 0 0 0 0 0 1", 6))));
        isText("0-5:64", edges(of(text("64 0 0 0 0 1", 5))));
        isText("0-2:256", edges(of(text("64 0 1", 2))));
        isText("0-3:128", edges(of(text("64 0 0 1", 3))));
    }

    static void edgesOfLargeQuotients() {
        about(15, "1 where it ends (j), 2 its length");
        // The sizes of 7, 33, 0 and 19 are 3, 6, none and 5.
        RootDiscs d = of(text("0 7 33 0 19", 4));
        isText("0-1:1 1-2:4 2-4:32", edges(d));
        d.divide(8);
        // 9999, 1249, 152, 19 have 14, 11, 8 and 5 digits: all fall by 3.
        isText("0-3:256", edges(d));
    }

    static void edgeNumbers() {
        about(15, "Throws `IndexOutOfBoundsException` if there is no such edge");
        RootDiscs d = of(text("0 4 1", 2));
        is(2, d.edges());
        fails(INDEX, () -> d.edge(2, 0));
        fails(INDEX, () -> d.edge(-1, 0));
        fails(INDEX, () -> d.edge(MOST, 2));
        fails(INDEX, () -> d.edge(LEAST, 2));
        about(15, "Throws `IllegalArgumentException` if what is out of range");
        fails(ARGUMENT, () -> d.edge(0, 3));
        fails(ARGUMENT, () -> d.edge(1, -1));
        fails(ARGUMENT, () -> d.edge(1, MOST));
        fails(ARGUMENT, () -> d.edge(1, LEAST));
        about(15, "If several exceptions apply to a call, the one that is listed first is thrown.");
        fails(INDEX, () -> d.edge(2, 3));
        fails(INDEX, () -> d.edge(-1, -1));
        refuses(INDEX, e -> e.edge(6, 0));
        refuses(ARGUMENT, e -> e.edge(0, 3));
    }

    static void bounds() {
        about(16, "Returns 32 plus (32 times the greatest absolute value of the coefficients c(0) to c(n - 1), divided by that of c(n), rounded up)");
        is(32, of(text("0 -99", 1)).bound());
        is(33, of(text("1 32", 1)).bound());
        is(33, of(text("-1 99", 1)).bound());
        is(34, of(text("1 -31", 1)).bound());
        is(64, of(text("99 -99", 1)).bound());
        is(32 + 3168, of(text("-99 1", 1)).bound());
        is(32 + 3168, of(text("1 2 3 -99 5 6 -1", 6)).bound());
        is(32 + 3168, of(text("1 2 3 4 5 99 1", 6)).bound());
        // c(n) itself counts not, nor does what a division leaves over: 32 * 9999 / 19 is 16840.4.
        is(32 + 2, of(text("1 2 1 2 1 2 33", 6)).bound());
        RootDiscs d = of(text("0 7 33 0 19", 4));
        d.divide(8);
        is(32 + 16841, d.bound());
        RootDiscs q = of(text("0 0 0 99 1", 4));
        q.divide(0);
        q.divide(0);
        q.divide(0);
        is(32 + 3168, q.bound());
    }

    // ---- points, products, spans, steps: section 2, promises 17 to 21

    static void pointNumbers() {
        about(17, "The parameters point and other are numbers of existing points; otherwise IndexOutOfBoundsException is thrown.");
        for (int p : new int[] {-1, 4, 5, 6, LEAST, MOST}) {
            refuses(INDEX, e -> e.point(p, 0));
            refuses(INDEX, e -> e.value(p, false));
            refuses(INDEX, e -> e.product(p, true));
            refuses(INDEX, e -> e.span(p));
            refuses(INDEX, e -> e.step(p, true));
            refuses(INDEX, e -> e.touch(p, 0));
            refuses(INDEX, e -> e.touch(0, p));
            refuses(INDEX, e -> e.touch(p, p));
            refuses(INDEX, e -> e.cluster(p));
            refuses(INDEX, e -> e.refine(p));
            refuses(INDEX, e -> e.move(p, 0, 0));
            refuses(INDEX, e -> e.join(p));
            refuses(INDEX, e -> e.part(p));
        }
        // Behind a division, the last number is no point any more.
        RootDiscs d = of(text("1 1 1 1 1 1 1", 6));
        is(0, d.point(5, 0));
        d.divide(0);
        fails(INDEX, () -> d.point(5, 0));
        is(0, d.point(4, 0));
        d.undo();
        is(0, d.point(5, 0));
    }

    static void pointWhats() {
        about(17, "5 1 if it is settled, otherwise 0, 6 1 if it is surely real, otherwise 0");
        RootDiscs d = new RootDiscs();
        int[] due = {64, 0, 48, NONE, 0, 0, 1};
        for (int what = 0; what <= 6; what++) {
            is(due[what], new RootDiscs().point(0, what));
            is(due[what], d.point(0, what));
        }
        about(17, "Throws `IllegalArgumentException` if what is out of range");
        for (int what : new int[] {-1, 7, LEAST, MOST}) {
            refuses(ARGUMENT, e -> e.point(3, what));
            about(17, "If several exceptions apply to a call, the one that is listed first is thrown.");
            refuses(INDEX, e -> e.point(4, what));
            refuses(INDEX, e -> e.point(-1, what));
        }
    }

    static void coordinates() {
        about(17, "with coordinates from -256 to 256");
        isPlaces(of("poly 1 1 1 1;at -256 256;at 256 -256;at 0 0;"), -256, 256, 256, -256, 0, 0);
        RootDiscs d = of("poly 1 1 1 1;pair 256 256;at -256 -256;");
        isPlaces(d, 256, 256, 256, -256, -256, -256);
        error("poly 1 1;at 257 0;", 2, 12);
        error("poly 1 1;at -257 0;", 2, 13);
        error("poly 1 1;at 0 257;", 2, 14);
        error("poly 1 1;at 0 -257;", 2, 15);
    }

    static void pairs() {
        about(17, "The second one has the number behind that of the first one.");
        RootDiscs d = of("poly 1 1 1 1 1 1;at 3 4;pair -5 1;pair 7 256;");
        isPlaces(d, 3, 4, -5, 1, -5, -1, 7, 256, 7, -256);
        int[] others = {NONE, 2, 1, 4, 3};
        for (int p = 0; p < others.length; p++) {
            is(others[p], d.point(p, 3));
        }
    }

    static void productOfOne() {
        about(19, "The product of a point Z is P = c(n) times the product, over all other points W, of (Z - W).");
        RootDiscs one = of("poly 5 -99;at 256 -256;");
        is(-99, one.product(0, false));
        is(0, one.product(0, true));
        // (512 + 512i) to the 5th, times 99: 2 to the 45th times -4 - 4i.
        RootDiscs far = of("poly 1 1 1 1 1 1 99;at 256 256;at -256 -256;at -256 -256;at -256 -256;at -256 -256;at -256 -256;");
        is(-(99L << 47), far.product(0, false));
        is(-(99L << 47), far.product(0, true));
        is(0, far.product(1, false));
        is(0, far.product(5, true));
        // Of a pair, the other point counts as all others: 2 * 7i.
        RootDiscs pair = of("poly 1 1 -3;pair 9 7;");
        is(0, pair.product(0, false));
        is(-42, pair.product(0, true));
        is(42, pair.product(1, true));
    }

    static void spans() {
        about(20, "(without other points, the absolute value of c(n) alone)");
        is(99, of("poly 5 -99;at 256 -256;").span(0));
        is(1, of("poly 5 1;at 0 0;").span(0));
        about(20, "of the greater one of the absolute differences in x and in y");
        is(3 * 7, of("poly 1 1 -3;at 1 2;at -4 9;").span(0));
        is(3 * 7, of("poly 1 1 -3;at 1 2;at -4 9;").span(1));
        is(3 * 7, of("poly 1 1 3;at 2 1;at 9 -4;").span(0));
        is(3 * 7, of("poly 1 1 3;at 2 1;at 9 8;").span(1));
        is(0, of("poly 1 1 3;at 2 1;at 2 1;").span(0));
        is(6, of("poly 1 1 3;at 2 1;at 2 -1;").span(1));
        is(99L << 45, of("poly 1 1 1 1 1 1 99;at 256 256;at -256 -256;at -256 -256;at -256 -256;at -256 -256;at -256 -256;").span(0));
    }

    static void stepsWithoutProduct() {
        about(21, "The step of a point is (0, 0) if P is 0.");
        // The product of 0 and 3 is 0 only as their points are at one place; that of 1 is not.
        RootDiscs d = of("poly 9 9 9 9;at 40 9;at 3 0;at 40 9;");
        for (int p = 0; p <= 2; p += 2) {
            is(0, d.step(p, false));
            is(0, d.step(p, true));
        }
        is(true, d.step(1, false) != 0);
        is(0, d.refine(0));
        is(0, d.refine(2));
        // i and -i are not 0: V is 3 * 1024 - 1, and (3071, 0) / i is (0, -3071).
        RootDiscs i = of("poly 3 0 1;at 0 1;at 0 0;");
        is(0, i.product(0, false));
        is(1, i.product(0, true));
        is(-64, i.step(0, true));
        is(64, i.step(1, true));
        is(0, i.step(0, false));
        // A step is asked for anew each time: no rest of another one is left.
        RootDiscs e = of("poly 9 9 9 9;at 40 9;at 3 0;at 40 9;");
        e.step(1, false);
        is(0, e.step(0, false));
        is(0, e.step(0, true));
    }

    static void stepsAtTheLimit() {
        about(21, "each towards 0 and then limited to -64 to 64");
        // With c(1) X, the step is the point itself: X - Z / 1.
        for (int z : new int[] {0, 1, 63, 64, 65, 256}) {
            int due = z > 64 ? 64 : z;
            RootDiscs d = of("poly 0 7;at " + z + " -" + z + ";");
            is(due, d.step(0, false));
            is(-due, d.step(0, true));
            RootDiscs m = of("poly 0 -7;at -" + z + " " + z + ";");
            is(-due, m.step(0, false));
            is(due, m.step(0, true));
        }
        // 32 * 2 / 65 is less than 1, 32 * 2 / 64 and 32 * 2 / 63 are not; also with a minus sign.
        is(0, of("poly 2 65;at 0 0;").step(0, false));
        is(1, of("poly 2 64;at 0 0;").step(0, false));
        is(1, of("poly 2 63;at 0 0;").step(0, false));
        is(0, of("poly -2 65;at 0 0;").step(0, false));
        is(-1, of("poly -2 64;at 0 0;").step(0, false));
        is(-1, of("poly 2 -63;at 0 0;").step(0, false));
        // 32 * 2 is 64, 32 * 65 / 32 is 65.
        is(64, of("poly 2 1;at 0 0;").step(0, false));
        is(64, of("poly 65 32;at 0 0;").step(0, false));
        is(-64, of("poly 65 -32;at 0 0;").step(0, false));
        is(63, of("poly 63 32;at 0 0;").step(0, false));
        // Of a pair, the second point's step mirrors that of the first one.
        RootDiscs pair = of("poly 1 0 1;pair 0 40;");
        is(7, pair.step(0, true));
        is(-7, pair.step(1, true));
    }

    /** What a step is reckoned from, and the step. */
    private static void isStep(String text, long a, long b, long c, long d, int x, int y) {
        RootDiscs r = of(text);
        is(a, r.value(0, false));
        is(b, r.value(0, true));
        is(c, r.product(0, false));
        is(d, r.product(0, true));
        is(x, r.step(0, false));
        is(y, r.step(0, true));
    }

    static void partsOfProductsAtTheLimit() {
        about(21, "as long as the real or the imaginary part of P is above 16384 or below -16384");
        // (-229711 * 16384 + 49230 * 3072) / (16384 * 16384 + 3072 * 3072) is -13.0; halved, it would be -12.99.
        isStep("poly -17 -7 12 -1;at -21 -2;at -21 126;at -45 126;", -229711, 49230, 16384, 3072, -13, 5);
        isStep("poly 15 7 1 1;at 35 40;at 35 -88;at -89 168;", 605275, 459320, 16384, 15872, 33, -4);
        isStep("poly -11 18 6 1;at 4 47;at 132 47;at -124 78;", -734220, 836929, -16384, 3968, 54, -38);
        isStep("poly -7 0 14 1;at 21 20;at 21 -108;at 128 -108;", -226947, 394780, -16384, -13696, -3, -21);
        isStep("poly -13 8 7 1;at -7 0;at -135 0;at -130 -128;", -472695, 0, 15744, 16384, -14, 15);
        isStep("poly -1 0 -15 1;at -6 -33;at -6 95;at 122 -156;", 492058, -157707, 15744, 16384, 9, -20);
        isStep("poly -15 4 9 1;at 44 -31;at 44 -159;at 172 -58;", -72164, -1062897, -3456, -16384, 63, 8);
        isStep("poly 9 19 -12 1;at 17 40;at -111 40;at -68 168;", 1052401, 226680, 10880, -16384, 20, 50);
        // 16385 and -16385 are halved, to 8192 and -8192, and the other parts with them.
        isStep("poly -14 -8 -1 1;at 41 3;at 186 3;at 154 -23;", -780314, -17346, 16385, -3770, -45, -11);
        isStep("poly 3 5 -19 1;at 4 45;at 4 -100;at 105 158;", 1316020, -77445, 16385, -14645, 47, 37);
        isStep("poly -8 -13 8 -1;at 2 4;at -111 4;at -143 41;", -291752, -49136, -16385, 4181, 16, 7);
        isStep("poly 17 -5 8 -1;at -3 -2;at -116 -2;at -148 -7;", 573687, 13358, -16385, -565, -35, 0);
        isStep("poly 17 16 -2 1;at -37 7;at -159 -4;at -118 -120;", -178846, 176246, 8485, 16385, 4, 13);
        isStep("poly 2 5 -4 -1;at 37 23;at 37 136;at -108 62;", 155522, -182390, 4407, 16385, -8, -11);
        isStep("poly -20 13 5 1;at -46 -31;at -191 -31;at -74 82;", -1047630, -123349, 4060, -16385, -7, -62);
        isStep("poly -11 -12 -2 -1;at 42 9;at -71 9;at 175 -136;", -1048138, -205875, 15029, -16385, -25, -41);
    }

    static void halvings() {
        about(21, "each of the four parts of N and P is halved (towards 0)");
        // Each of the four is an odd negative number once at least; rounded down instead, the step would be another one.
        isStep("poly 0 -6 -5 9 6;at -75 39;at -100 85;at 46 0;at 87 27;", -133484184, -93360384, 725580, -6446484, 12, -22);
        isStep("poly 1 -9 7 -1 -7;at 78 -59;at 67 31;at -47 -70;at -57 -49;", 553149857, 314725352, -1455895, 10682455, 22, -54);
        isStep("poly -7 5 1 0 6;at -40 -69;at 100 -83;at 96 -89;at 88 58;", -140001370, -215037120, -17992128, -10682448, 11, 5);
        isStep("poly 8 7 -5 -6 5;at -6 39;at 53 61;at -33 81;at 21 15;", 19331453, 28872168, 113715, -556380, -43, 43);
        isStep("poly -1 5 -6 -1 3;at -22 -50;at 64 -82;at -53 16;at -3 4;", 466752, -49996800, 1111794, -290328, 11, -42);
    }

    private static final long LIMIT = 1L << 40;

    /** Four points beside the first one, so that its product is c(5) times (1 + sign * i). */
    private static String beside(String poly, int x, int y, int sign) {
        StringBuilder s = new StringBuilder("poly ").append(poly).append(";at ").append(x).append(' ').append(y).append(';');
        s.append("at ").append(x - 1).append(' ').append(y - sign).append(';');
        for (int p = 0; p < 3; p++) {
            s.append("at ").append(x - 1).append(' ').append(y).append(';');
        }
        return s.toString();
    }

    static void partsOfValuesAtTheLimit() {
        about(21, "Then both parts of N are limited to -1099511627776 to 1099511627776 (2 to the power 40).");
        is(1099511627776L, LIMIT);
        // N is (limit, limit - 65) and P is 1 - i: the step is (65 / 2, 64).
        isStep(beside("0 72 58 47 72 1", 242, 7, -1), 9495379563722L, LIMIT - 65, 1, -1, 32, 64);
        isStep(beside("0 -72 -58 -47 -72 -1", 242, 7, -1), -9495379563722L, 65 - LIMIT, -1, 1, 32, 64);
        // (limit, limit - 16) and (limit, -limit + 16) alike.
        isStep(beside("0 -1 15 10 0 1", -241, -208, -1), 3171916997455L, LIMIT - 16, 1, -1, 8, 64);
        isStep(beside("0 1 -15 -10 0 -1", -241, -208, -1), -3171916997455L, 16 - LIMIT, -1, 1, 8, 64);
        isStep(beside("0 -1 15 10 0 1", -241, 208, 1), 3171916997455L, 16 - LIMIT, 1, 1, 8, -64);
        // N is (limit - 33, limit) and P is 1 + i: the step is (64, 33 / 2).
        isStep(beside("16 -8 -4 0 17 1", 71, -218, 1), LIMIT - 33, 1438919956462L, 1, 1, 64, 16);
        isStep(beside("-16 8 4 0 -17 -1", 71, -218, 1), 33 - LIMIT, -1438919956462L, -1, -1, 64, 16);
        // N is (-limit + 30, limit) and P is 1 - i: the step is (-64, 30 / 2).
        isStep(beside("19 -2 7 16 1 1", 182, -223, -1), 30 - LIMIT, 1785192402185L, 1, -1, -64, 15);
        isStep(beside("-19 2 -7 -16 -1 -1", 182, -223, -1), LIMIT - 30, -1785192402185L, -1, 1, -64, 15);
    }

    // ---- discs, clusters: section 3, promises 17 and 22 to 28

    private static int radius(String text) {
        return of(text).point(0, 2);
    }

    static void radiiRoundedUp() {
        about(17, "Its radius, in units, is n times ((the absolute value of the real part of V(Z) plus that of the imaginary part) divided by the span, rounded up).");
        is(0, radius("poly 0 1;at 0 0;"));
        // (32 * c(0)) / 99 alone: 32 / 99, 96 / 99, 128 / 99.
        is(1, radius("poly 1 99;at 0 0;"));
        is(1, radius("poly 3 99;at 0 0;"));
        is(2, radius("poly 4 99;at 0 0;"));
        is(32, radius("poly 99 99;at 0 0;"));
        is(32, radius("poly -99 99;at 0 0;"));
        is(33, radius("poly -98 97;at 0 0;"));
        // Rounded up first, then times n: a hair is n.
        is(2, radius("poly 0 0 1;at 1 0;at 256 0;"));
        is(6, radius("poly 0 0 0 0 0 0 1;at 1 0;at 256 0;at 256 0;at 256 0;at 256 0;at 256 0;"));
        is(0, radius("poly 0 0 0 0 0 0 1;at 0 0;at 256 0;at 256 0;at 256 0;at 256 0;at 256 0;"));
        // Both parts count: |3| + |-4|, with either sign.
        is(7, radius("poly 0 1;at 3 -4;"));
        is(7, radius("poly 0 1;at -3 4;"));
        is(7, radius("poly 0 -1;at -3 -4;"));
    }

    static void radiiAtTheLimit() {
        about(17, "It has no radius if the span is 0, or if the radius would be above 9999.");
        is(9999, radius("poly 6 0 0 59;at 0 0;at 1 0;at -1 0;"));
        // 83 * 1024 / 17 is 4999.5: the radius would be 10000.
        is(NONE, radius("poly 83 0 17;at 0 0;at 1 0;"));
        is(NONE, radius("poly -83 0 17;at 0 0;at 0 -1;"));
        // A value of 0 is no radius either if the span is 0.
        is(NONE, radius("poly 0 0 1;at 0 0;at 0 0;"));
        RootDiscs d = of("poly 0 0 1;at 0 0;at 0 0;");
        isText("0 0 ?\n0 0 ?\n", reported(d));
        is(0, d.holding(0, 0));
    }

    static void touchingDiscs() {
        about(22, "or if the square of the distance of their points is not greater than the square of the sum of their radii");
        // 96 * 96 + 28 * 28 is 100 * 100, 82 * 82 is 80 * 80 + 18 * 18.
        RootDiscs d = of("poly -6 1 2;at 30 -17;at -66 11;");
        is(70, d.point(0, 2));
        is(30, d.point(1, 2));
        is(true, d.touch(0, 1));
        is(true, d.touch(1, 0));
        is(1, d.clusters());
        RootDiscs e = of("poly -5 -3 3;at 45 -13;at -35 5;");
        is(52, e.point(0, 2));
        is(30, e.point(1, 2));
        is(true, e.touch(1, 0));
        // 114 * 114 + 1 is one more than (32 + 82) squared; 80 * 80 + 1 alike.
        RootDiscs f = of("poly 1 5 3;at -72 -1;at 42 -2;");
        is(32, f.point(0, 2));
        is(82, f.point(1, 2));
        is(false, f.touch(0, 1));
        is(false, f.touch(1, 0));
        is(true, f.touch(0, 0));
        is(2, f.clusters());
        RootDiscs g = of("poly -2 -4 3;at -13 -11;at 49 -10;");
        is(28, g.point(0, 2));
        is(34, g.point(1, 2));
        is(false, g.touch(0, 1));
    }

    static void touchingWithoutRadius() {
        about(22, "Two different discs touch if one of both has no radius");
        // Points 1 and 2 lie at one place; point 0 is at a root.
        String text = "poly 0 0 0 1;at 0 0;at -200 0;at -200 0;";
        is(0, of(text).point(0, 2));
        for (int p = 0; p < 3; p++) {
            for (int q = 0; q < 3; q++) {
                is(true, of(text).touch(p, q));
            }
        }
        about(22, "true also for a point and itself");
        is(true, of(text).touch(1, 1));
        is(true, new RootDiscs().touch(0, 0));
        is(true, of("poly 0 1;at 0 0;").touch(0, 0));
    }

    static void clustersByOthers() {
        about(23, "A cluster is a greatest set of points whose discs touch, directly or by others.");
        // Only 0 and 2, 2 and 3, 3 and 1 touch; every way round, all four are one cluster.
        String[] chains = {"poly 3 -1 -6 2 2;at 27 0;at -72 0;at 60 0;at -41 0;",
            "poly 6 6 -9 -6 1;at -45 0;at 206 0;at -13 0;at 44 0;"};
        for (String chain : chains) {
            RootDiscs d = of(chain);
            is(false, d.touch(0, 1) || d.touch(0, 3) || d.touch(1, 2));
            is(true, d.touch(0, 2) && d.touch(2, 3) && d.touch(3, 1));
            for (int p = 0; p < 4; p++) {
                is(15, of(chain).cluster(p));
                is(0, of(chain).point(p, 4));
            }
            is(1, of(chain).clusters());
        }
        // Two clusters: 0 with 3, 1 with 2.
        String two = "poly 4 9 -5 -9 3;at -16 0;at 57 0;at 117 0;at -27 0;";
        int[] sets = {9, 6, 6, 9};
        int[] lowest = {0, 1, 1, 0};
        for (int p = 0; p < 4; p++) {
            is(sets[p], of(two).cluster(p));
            is(lowest[p], of(two).point(p, 4));
        }
        about(24, "Returns the number of clusters.");
        is(2, of(two).clusters());
        is(1, of("poly 0 1;at 0 0;").clusters());
        is(1, of("poly 0 1;at 0 0;").cluster(0));
        is(1, of(text("1 1 1 1 1 1 1", 6)).clusters());
        is(63, of(text("1 1 1 1 1 1 1", 6)).cluster(5));
    }

    static void settledPoints() {
        about(25, "A point is settled if it is a cluster by itself and its radius is not greater than the goal.");
        // The only radius is 5, then 99 and 100.
        is(1, of("poly 0 1;at 3 2;goal 5;").settled());
        is(0, of("poly 0 1;at 3 2;goal 4;").settled());
        is(1, of("poly 0 1;at 99 0;goal 99;").settled());
        is(0, of("poly 0 1;at 100 0;goal 99;").settled());
        is(1, of("poly 0 1;at 0 0;goal 1;").settled());
        is(1, of("poly 0 1;at 1 1;").settled());
        is(0, of("poly 0 1;at 2 1;").settled());
        is(1, of("poly 0 1;at 2 1;goal 3;").point(0, 5));
        is(0, of("poly 0 1;at 2 2;goal 3;").point(0, 5));
        // Small discs that touch are not settled: the radii are 2 and 2, and the points 4 apart.
        RootDiscs near = of("poly 0 0 1;at 2 0;at -2 0;goal 99;");
        is(2, near.point(0, 2));
        is(0, near.settled());
        // A point without a radius makes one cluster of all.
        is(0, of("poly 0 0 0 1;at 0 0;at -200 0;at -200 0;goal 99;").settled());
    }

    static void realPoints() {
        about(26, "A point is surely real if it is a cluster by itself, it is in no pair, its radius is not less than the absolute value of y");
        is(1, of("poly 0 1;at 0 256;").real());
        is(1, of("poly 0 1;at 0 -256;").real());
        is(1, of("poly 0 1;at 0 256;").point(0, 6));
        is(0, of("poly 1 0 1;at 0 32;at 0 -32;").real());
        is(0, of("poly 1 0 1;pair 0 32;").real());
        is(3, of("poly -1 0 1;at 32 0;at -32 0;").real());
        is(0, of("poly 0 0 1;at 2 0;at -2 0;").real());
        // Two real points and a pair: only the first two.
        RootDiscs d = of("poly -1 0 0 0 1;pair 0 32;at 32 0;at -32 0;");
        is(4, d.clusters());
        is(12, d.real());
        is(0, d.point(0, 6));
        is(0, d.point(1, 6));
        is(1, d.point(2, 6));
        isText("0 32 0p\n0 -32 0p\n32 0 0r\n-32 0 0r\n", reported(d));
    }

    static void mirroredDiscs() {
        about(26, "its mirrored disc, around (x, -y), touches no disc of another point");
        // The discs are apart; the mirrored ones are 78 * 78 + 1 and 86 * 86 + 1 apart, one more than they reach.
        RootDiscs d = of("poly -2 -1 2;at -26 14;at 52 -15;");
        is(28, d.point(0, 2));
        is(50, d.point(1, 2));
        is(3, d.real());
        RootDiscs e = of("poly -2 -2 2;at 78 -2;at -8 3;");
        is(66, e.point(0, 2));
        is(20, e.point(1, 2));
        is(3, e.real());
        // 80 * 80 + 18 * 18 is 82 * 82: they just touch, though the discs, 80 and 22 apart, do not.
        RootDiscs f = of("poly -3 -4 3;at 52 2;at -28 -20;");
        is(18, f.point(0, 2));
        is(64, f.point(1, 2));
        is(2, f.clusters());
        is(0, f.real());
        is(0, f.point(0, 6));
        is(false, f.touch(0, 1));
        is(0, of("poly -1 -3 3;at -32 -2;at 48 20;").real());
        // The discs touch, 105 and 10 apart with 106 to reach; the mirrored ones, 105 and 30 apart, do not: by no means real.
        RootDiscs g = of("poly -4 -2 2;at 57 10;at -48 20;");
        is(30, g.point(0, 2));
        is(76, g.point(1, 2));
        is(true, g.touch(0, 1));
        is(3, g.cluster(0));
        is(0, g.real());
        is(0, g.point(1, 6));
    }

    static void heldPlaces() {
        about(27, "Returns the points whose discs hold a place (any two numbers), as a set; a point without a radius is not among them.");
        // Radius 10 around (10, 0): (6, 8) from it is on its rim.
        RootDiscs d = of("poly 0 0 1;at 10 0;at -10 0;");
        is(1, d.holding(16, 8));
        is(1, d.holding(16, -8));
        is(1, d.holding(4, 8));
        is(0, d.holding(17, 8));
        is(0, d.holding(16, 9));
        is(0, d.holding(3, 8));
        is(1, d.holding(18, 6));
        is(0, d.holding(18, 7));
        is(3, d.holding(0, 0));
        is(1, d.holding(1, 0));
        is(2, d.holding(-1, 0));
        // A radius of 0 holds its point alone.
        RootDiscs zero = of("poly 0 1;at 0 0;");
        is(1, zero.holding(0, 0));
        is(0, zero.holding(1, 0));
        is(0, zero.holding(0, -1));
        // Places beyond all points.
        RootDiscs far = of("poly 99 1;at 256 256;");
        is(3424 + 256, far.point(0, 2));
        is(1, far.holding(256 + 3680, 256));
        is(0, far.holding(256 + 3681, 256));
        is(1, far.holding(256, 256 - 3680));
        is(0, far.holding(256, 256 - 3681));
    }

    static void heldPlacesFarAway() {
        about(27, "a place (any two numbers)");
        int[] far = {LEAST, LEAST + 1, LEAST + 256, MOST, MOST - 1, 65536, -65536, 1 << 30, 65536 + 64};
        for (int v : far) {
            // As ints, squares of 65536 and of its multiples are 0; as longs, two squares of 2 to the 31st are too large.
            is(0, new RootDiscs().holding(v, 0));
            is(0, new RootDiscs().holding(64, v));
            is(0, new RootDiscs().holding(v, v));
            is(0, of("poly 99 1;at 256 256;").holding(v, v));
            is(0, of("poly 99 1;at -256 -256;").holding(v, -256));
        }
        is(0, new RootDiscs().holding(LEAST, MOST));
        is(0, new RootDiscs().holding(MOST, LEAST));
    }

    static void worstPoints() {
        about(28, "Returns the point with the greatest radius, those without one first, the lowest one of several.");
        is(0, of("poly 0 1;at 0 0;").worst());
        is(0, of("poly -1 0 1;at 32 0;at -32 0;").worst());
        is(1, of("poly -1 0 1;at 32 0;at -40 0;").worst());
        is(0, of("poly -1 0 1;at 40 0;at -40 0;").worst());
        // 9999 is less than none.
        RootDiscs d = of("poly 6 0 0 59;at 0 0;at 1 0;at -1 0;");
        is(9999, d.point(0, 2));
        is(true, d.point(1, 2) > 0 && d.point(1, 2) < 9999);
        is(0, d.worst());
        // 3 * 1279872 / 384 is 9999, ahead of points whose radii would be 29904 and more.
        RootDiscs last = of("poly 39 -2 -2 64;at -1 0;at 1 0;at 2 0;");
        is(9999, last.point(0, 2));
        is(NONE, last.point(1, 2));
        is(1, last.worst());
        RootDiscs e = of("poly 0 0 0 1;at 200 0;at -10 0;at -10 0;");
        is(true, e.point(0, 2) > 0);
        is(1, e.worst());
        is(0, of(text("1 1 1 1 1 1 1", 6)).worst());
        // Only the last point has none, as its radius would be 10002.
        RootDiscs f = of("poly 35 0 0 43;at 2 0;at -4 0;at 0 0;");
        is(true, f.point(0, 2) > 0 && f.point(1, 2) > 0);
        is(2, f.worst());
    }

    static void orderByProduct() {
        about(29, "the greatest first, of several the lowest point first; NONE if there is no such place (any int)");
        RootDiscs one = of("poly 0 1;at 0 0;");
        is(0, one.byProduct(0));
        is(NONE, one.byProduct(1));
        RootDiscs six = of("poly 1 1 1 1 1 1 1;at 0 0;at 0 0;at 9 0;at 0 0;at 0 0;at 0 0;");
        // Only point 2 has a product; all others lie at one place.
        int[] due = {2, 0, 1, 3, 4, 5};
        for (int i = 0; i < 6; i++) {
            is(due[i], six.byProduct(i));
        }
        for (int i : new int[] {6, 7, -1, LEAST, MOST}) {
            is(NONE, six.byProduct(i));
        }
        // 10 * 30, 10 * 20 and 30 * 20 (with minus signs): the middle one is the last one.
        RootDiscs three = of("poly 1 1 1 -2;at 0 0;at 10 0;at 30 0;");
        is(2, three.byProduct(0));
        is(0, three.byProduct(1));
        is(1, three.byProduct(2));
        is(NONE, three.byProduct(3));
        three.divide(0);
        is(NONE, three.byProduct(2));
        // Both parts count: the products are 7 + 7i, -7 + 91i and -6 - 7i.
        RootDiscs parts = of("poly 1 1 1 1;at 0 0;at 7 7;at 1 0;");
        is(1, parts.byProduct(0));
        is(0, parts.byProduct(1));
        is(2, parts.byProduct(2));
    }

    // ---- bounds, sums, visits: promises 30 to 34

    static void goals() {
        about(30, "\"goal\" sets the goal (1 to 99; 2 without it)");
        is(2, new RootDiscs().goal());
        is(2, of("poly 0 1;at 0 0;").goal());
        is(1, of("poly 0 1;goal 1;at 0 0;").goal());
        is(99, of("poly 0 1;at 0 0;goal 0099;").goal());
        // A text without a goal sets it back to 2.
        RootDiscs d = of("poly 0 1;at 0 0;goal 50;");
        put(d, "poly 0 1;at 0 0;").readText();
        is(2, d.goal());
    }

    static void rootsWithin() {
        about(31, "the number of points of the clusters of which all discs lie within these bounds (a disc may touch them)");
        // One disc, of radius 5 around (3, -2).
        String text = "poly 0 1;at 3 -2;";
        is(1, of(text).rootsIn(-2, -7, 8, 3, false));
        is(0, of(text).rootsIn(-1, -7, 8, 3, false));
        is(0, of(text).rootsIn(-2, -6, 8, 3, false));
        is(0, of(text).rootsIn(-2, -7, 7, 3, false));
        is(0, of(text).rootsIn(-2, -7, 8, 2, false));
        // A disc of radius 0 lies within a place alone.
        is(1, of("poly 0 1;at 0 0;").rootsIn(0, 0, 0, 0, false));
        is(0, of("poly 0 1;at 0 0;").rootsIn(1, 0, 1, 0, false));
        // Of two clusters of two, -31 to -8 and -7 to 201: each counts whole or not at all.
        String two = "poly 4 9 -5 -9 3;at -16 0;at 57 0;at 117 0;at -27 0;";
        is(2, of(two).rootsIn(-31, -9999, -8, 9999, false));
        is(0, of(two).rootsIn(-30, -9999, -8, 9999, false));
        is(2, of(two).rootsIn(-7, -84, 201, 84, false));
        is(0, of(two).rootsIn(-7, -83, 201, 84, false));
        is(4, of(two).rootsIn(-31, -84, 201, 84, false));
    }

    static void rootsAtMost() {
        about(31, "the number of points of the clusters of which a disc has a square around it (with its radius to each side) that has a place in common with these bounds, or no radius");
        // The square goes from (-2, -7) to (8, 3); its corner is no place of the disc, but counts.
        String text = "poly 0 1;at 3 -2;";
        is(1, of(text).rootsIn(8, 3, 99, 99, true));
        is(0, of(text).rootsIn(9, 3, 99, 99, true));
        is(0, of(text).rootsIn(8, 4, 99, 99, true));
        is(1, of(text).rootsIn(-99, -99, -2, -7, true));
        is(0, of(text).rootsIn(-99, -99, -3, -7, true));
        is(0, of(text).rootsIn(-99, -99, -2, -8, true));
        is(1, of(text).rootsIn(0, 0, 0, 0, true));
        String two = "poly 4 9 -5 -9 3;at -16 0;at 57 0;at 117 0;at -27 0;";
        is(2, of(two).rootsIn(-99, 0, -24, 0, true));
        is(4, of(two).rootsIn(-99, 0, -7, 0, true));
        is(2, of(two).rootsIn(201, 0, 201, 0, true));
        is(0, of(two).rootsIn(202, 0, 202, 0, true));
        // Without a radius, a point is everywhere at most, and nowhere at least.
        String none = "poly 0 0 0 1;at 0 0;at -200 0;at -200 0;";
        is(3, of(none).rootsIn(9999, 9999, 9999, 9999, true));
        is(0, of(none).rootsIn(-9999, -9999, 9999, 9999, false));
        // The last point alone has none, and the first one alone.
        is(3, of("poly 35 0 0 43;at 2 0;at -4 0;at 0 0;").rootsIn(9999, 9999, 9999, 9999, true));
        is(3, of("poly 35 0 0 43;at 0 0;at 2 0;at -4 0;").rootsIn(9999, 9999, 9999, 9999, true));
        is(0, of("poly 35 0 0 43;at 0 0;at 2 0;at -4 0;").rootsIn(-9999, -9999, 9999, 9999, false));
    }

    static void boundsOfRoots() {
        about(31, "if one of the four is not -9999 to 9999, or right is less than left, or high less than low");
        for (int i = 0; i < 2; i++) {
            boolean isMost = i == 1;
            is(2, new RootDiscs().rootsIn(-9999, -9999, 9999, 9999, isMost));
            is(0, new RootDiscs().rootsIn(9999, 9999, 9999, 9999, isMost));
            is(0, new RootDiscs().rootsIn(-9999, -9999, -9999, -9999, isMost));
            for (int far : new int[] {10000, -10000, LEAST, MOST}) {
                refuses(ARGUMENT, e -> e.rootsIn(far, 0, 9999, 0, isMost));
                refuses(ARGUMENT, e -> e.rootsIn(0, far, 0, 9999, isMost));
                refuses(ARGUMENT, e -> e.rootsIn(-9999, 0, far, 0, isMost));
                refuses(ARGUMENT, e -> e.rootsIn(0, -9999, 0, far, isMost));
            }
            refuses(ARGUMENT, e -> e.rootsIn(1, 0, 0, 0, isMost));
            refuses(ARGUMENT, e -> e.rootsIn(0, 1, 0, 0, isMost));
            refuses(ARGUMENT, e -> e.rootsIn(9999, 0, -9999, 0, isMost));
            is(isMost ? 1 : 0, of("poly 0 1;at 5 0;").rootsIn(0, 0, 0, 0, isMost));
        }
    }

    static void sumErrors() {
        about(32, "Returns c(n) times the sum of all x, plus 32 times c(n - 1) (0 if the sum of all points is that of all roots).");
        is(-1024, of("poly -32 1;at 0 7;").sumError());
        is(99 * 1536 + 3168, of("poly 1 1 1 1 1 99 99;at 256 0;at 256 0;at 256 0;pair 256 1;at 256 0;").sumError());
        is(-99 * 1536 - 3168, of("poly 1 1 1 1 1 -99 -99;at 256 0;at 256 0;at 256 0;pair 256 1;at 256 0;").sumError());
        is(-99 * 1536 + 3168, of("poly 1 1 1 1 1 99 99;at -256 0;at -256 0;at -256 0;pair -256 1;at -256 0;").sumError());
        // Behind a division, that of what is left: c(1) is 2 and c(0) is 2 * 3.
        RootDiscs d = of("poly 5 0 2;at 96 0;at 7 0;");
        d.divide(3);
        is(2 * 7 + 32 * 6, d.sumError());
    }

    static void visitedPlaces() {
        about(33, "Returns how many of the visits that are kept are of a place (any two numbers).");
        RootDiscs d = of("poly 1 1 1 1 1 1;at -256 256;at 256 -256;at -256 256;pair 0 256;");
        is(2, d.visits(-256, 256));
        is(1, d.visits(256, -256));
        is(1, d.visits(0, 256));
        is(1, d.visits(0, -256));
        is(0, d.visits(256, 256));
        is(0, d.visits(0, 0));
        // No place of a point, however a place may be kept: as one number, (0, 256) might be (1, 256 - a row).
        for (int bits = 0; bits < 32; bits++) {
            is(0, d.visits(1, 256 - (1 << bits)));
            is(0, d.visits(1 << bits, 256));
            is(0, d.visits(-(1 << bits) - 1, 256));
            is(0, d.visits(256, -256 + (1 << bits)));
        }
        for (int row = 500; row < 1100; row++) {
            is(0, d.visits(1, 256 - row));
            is(0, d.visits(-row, 257));
        }
        is(0, d.visits(LEAST, LEAST));
        is(0, d.visits(MOST, MOST));
        is(0, d.visits(257, 0));
        is(0, d.visits(0, -257));
        about(34, "Returns the number of different places of the visits that are kept.");
        is(4, d.places());
        is(1, of("poly 0 1;at 0 0;").places());
        is(1, of(text("1 1 1 1 1 1 1", 6)).places());
        is(6, of("poly 1 1 1 1 1 1 1;pair 0 1;pair 1 1;pair 1 2;").places());
        // (1, 2), (2, 1) and those with minus signs are different places.
        is(6, of("poly 1 1 1 1 1 1 1;at 1 2;at 2 1;at -1 2;at 1 -2;at -2 1;at 2 -1;").places());
    }
}
