/** Boundary cases of factors, changes, visits, reports, undo and saving: sections 2, 4, 6 and 8, promises 33 to 58. */
final class ChangeBoundaries extends Checks {
    private ChangeBoundaries() {
    }

    /** A text with so many points at (0, 0). */
    private static String text(String poly, int points) {
        StringBuilder s = new StringBuilder("poly ").append(poly).append(';');
        for (int p = 0; p < points; p++) {
            s.append("at 0 0;");
        }
        return s.toString();
    }

    // ---- parts of a point's value: promise 18

    static void valuesOfPoints() {
        about(18, "Returns a part of the value at a point.");
        RootDiscs d = of("poly 99 99 99 99 99 99 99;pair 256 256;pair 256 256;pair 256 256;");
        is(-148471L * 99 << 30, d.value(0, false));
        is(-2227064L * 99 << 30, d.value(4, true));
        is(2227064L * 99 << 30, d.value(5, true));
        fails(INDEX, () -> d.value(6, false));
        fails(INDEX, () -> d.value(-1, true));
        is(0, of("poly 0 1;at 0 0;").value(0, false));
        fails(INDEX, () -> of("poly 0 1;at 0 0;").value(1, false));
        // Behind a division, it is the value of what is left: -3 - 2 * 1 is -5 there.
        RootDiscs q = of("poly 1 -3 1;at 32 0;at 0 0;");
        is(-1024, q.value(0, false));
        q.divide(0);
        is(32 - 96, q.value(0, false));
    }

    // ---- factors: section 4, promises 35 and 36

    static void factorsInRange() {
        about(35, "A factor is X - a (with a from -8 to 8), or, for a pair, X * X - 2 * a * X + (a * a + b * b) (with b from 1 to 8).");
        RootDiscs d = new RootDiscs();
        for (int a = -8; a <= 8; a++) {
            is(0, d.whyNotDivide(a));
        }
        for (int a : new int[] {-9, 9, LEAST, MOST}) {
            refuses(ARGUMENT, e -> e.whyNotDivide(a));
            refuses(ARGUMENT, e -> e.divide(a));
            refuses(ARGUMENT, e -> e.whyNotDividePair(a, 1));
            refuses(ARGUMENT, e -> e.dividePair(a, 8));
            about(35, "@throws IllegalArgumentException if a is out of range.");
        }
        about(36, "@throws IllegalArgumentException if a or b is out of range.");
        RootDiscs pair = of("poly 1 1 1 1;at 0 0;pair 0 1;");
        for (int b = 1; b <= 8; b++) {
            is(0, pair.whyNotDividePair(-8, b));
            is(0, pair.whyNotDividePair(8, b));
        }
        for (int b : new int[] {0, 9, -1, -8, LEAST, MOST}) {
            refuses(ARGUMENT, e -> e.whyNotDividePair(0, b));
            refuses(ARGUMENT, e -> e.dividePair(0, b));
            refuses(ARGUMENT, e -> e.dividePair(9, b));
        }
    }

    static void degreesAgainst() {
        about(35, "1 the degree is not greater than that of the factor");
        is(1, of("poly 1 1;at 0 0;").whyNotDivide(0));
        is(0, of("poly 1 1 1;at 0 0;at 0 0;").whyNotDivide(0));
        about(36, "1 the degree is not greater than that of the factor");
        is(1, of("poly 1 1;at 0 0;").whyNotDividePair(0, 1));
        is(1, of("poly 1 1 1;pair 0 1;").whyNotDividePair(0, 1));
        is(0, of("poly 1 1 1 1;pair 0 1;at 0 0;").whyNotDividePair(0, 1));
        refuses("poly 1 1;at 0 0;", STATE, d -> d.divide(0));
        refuses("poly 1 1;at 0 0;", STATE, d -> d.dividePair(0, 1));
        refuses("poly 1 1 1;pair 0 1;", STATE, d -> d.dividePair(0, 1));
        // If several are so, the lowest one: the degree 2 with no pair, the degree 1 behind divisions.
        about(36, "Reasons why it cannot be divided out; the lowest one is told");
        is(1, of("poly 1 1 1;at 0 0;at 0 0;").whyNotDividePair(8, 8));
        RootDiscs d = of("poly 1 1 1 1;pair 0 1;at 0 0;");
        is(0, d.whyNotDivide(0));
        d.divide(0);
        is(2, d.whyNotDivide(0));
        is(1, d.whyNotDividePair(0, 1));
    }

    static void pointsAgainst() {
        about(35, "2 there is no point without a pair (or no pair)");
        is(2, of("poly 1 1 1;pair 0 1;").whyNotDivide(0));
        is(2, of("poly 1 1 1 1 1 1 1;pair 0 1;pair 0 1;pair 0 1;").whyNotDivide(8));
        is(0, of("poly 1 1 1 1;pair 0 1;at 0 0;").whyNotDivide(0));
        is(0, of("poly 1 1 1 1;at 0 0;pair 0 1;").whyNotDivide(0));
        about(36, "2 there is no point without a pair (or no pair)");
        is(2, of(text("1 1 1 1", 3)).whyNotDividePair(0, 1));
        is(2, of("poly 1 1 1 1;at 0 1;at 0 -1;at 0 0;").whyNotDividePair(0, 1));
        refuses("poly 1 1 1;pair 0 1;", STATE, d -> d.divide(0));
        refuses("poly 1 1 1 1;at 0 1;at 0 -1;at 0 0;", STATE, d -> d.dividePair(0, 1));
        // 2 is told ahead of 3: 99, 8 * 99 + 99 and so on are above 9999 soon.
        about(35, "Reasons why it cannot be divided out; the lowest one is told");
        is(2, of("poly 99 99 99 99 99 99 99;pair 0 1;pair 0 1;pair 0 1;").whyNotDivide(8));
        is(3, of(text("99 99 99 99 99 99 99", 6)).whyNotDivide(8));
        is(2, of(text("99 99 99 99 99 99 99", 6)).whyNotDividePair(8, 8));
        is(3, of("poly 99 99 99 99 99 99 99;pair 0 1;pair 0 1;pair 0 1;").whyNotDividePair(8, 8));
    }

    static void largeQuotients() {
        about(35, "3 the quotient would have a coefficient above 9999 or below -9999.");
        // By X - 8: 19, 19 * 8, 33 + 19 * 64, and 7 or 8 more than 33 * 8 + 19 * 512, which is 9992.
        is(0, of(text("99 7 33 0 19", 4)).whyNotDivide(8));
        is(3, of(text("99 8 33 0 19", 4)).whyNotDivide(8));
        is(0, of(text("99 -7 -33 0 -19", 4)).whyNotDivide(8));
        is(3, of(text("99 -8 -33 0 -19", 4)).whyNotDivide(8));
        // By X + 8: 19, -19 * 8, 33 + 19 * 64, and 7 or 8 less than -9992.
        is(0, of(text("99 -7 33 0 19", 4)).whyNotDivide(-8));
        is(3, of(text("99 -8 33 0 19", 4)).whyNotDivide(-8));
        is(0, of(text("99 7 -33 0 -19", 4)).whyNotDivide(-8));
        is(3, of(text("99 8 -33 0 -19", 4)).whyNotDivide(-8));
        // The remainder may be larger.
        RootDiscs d = of(text("99 7 33 0 19", 4));
        is(99 + 8 * 9999, d.divide(8));
        is(9999, d.coefficient(0));
        is(99 + 8 * 9999, d.debt(0, 3));
        refuses(text("99 8 33 0 19", 4), STATE, e -> e.divide(8));
        refuses(text("99 -8 -33 0 -19", 4), STATE, e -> e.divide(8));
        about(36, "3 the quotient would have a coefficient above 9999 or below -9999.");
        // By X * X - 16 * X + 65: 52, 16 * 52 and, less 65 * 52, 9932; 67 and 68 more are 9999 and 10000.
        is(0, of("poly 0 0 0 0 52;pair 0 1;at 0 0;at 0 0;").whyNotDividePair(8, 1));
        is(0, of("poly 0 0 67 0 52;pair 0 1;at 0 0;at 0 0;").whyNotDividePair(8, 1));
        is(3, of("poly 0 0 68 0 52;pair 0 1;at 0 0;at 0 0;").whyNotDividePair(8, 1));
        is(0, of("poly 0 0 -67 0 -52;pair 0 1;at 0 0;at 0 0;").whyNotDividePair(8, 1));
        is(3, of("poly 0 0 -68 0 -52;pair 0 1;at 0 0;at 0 0;").whyNotDividePair(8, 1));
        refuses("poly 0 0 68 0 52;pair 0 1;at 0 0;at 0 0;", STATE, e -> e.dividePair(8, 1));
        RootDiscs p = of("poly 99 99 67 0 52;pair 0 1;at 0 0;at 0 0;");
        // 52, 832, 9999; r1 is 99 + 16 * 9999 - 65 * 832, r0 is 99 - 65 * 9999.
        is(99 + 159984 - 54080 + 649935 - 99, p.dividePair(8, 1));
        isPolynomial(p, 9999, 832, 52);
        is(106003, p.debt(0, 2));
        is(-649836, p.debt(0, 3));
        is(755839, p.debt(0, 4));
        is(99, p.recombined(0));
        is(99, p.recombined(1));
        is(67, p.recombined(2));
    }

    // ---- debts: promises 37 to 40, divisions: promises 51 and 52

    static void fiveDebts() {
        about(37, "At most 5 debts can come.");
        RootDiscs d = of(text("1 2 3 4 5 6 7", 6));
        for (int k = 0; k < 5; k++) {
            is(k, d.debts());
            fails(INDEX, () -> d.debt(d.debts(), 0));
            is(k + 1, d.divide(0));
        }
        is(5, d.debts());
        is(1, d.whyNotDivide(0));
        fails(STATE, () -> d.divide(0));
        fails(INDEX, () -> d.debt(5, 0));
        for (int k = 0; k < 5; k++) {
            is(k + 1, d.debt(k, 3));
            is(k + 1, d.debt(k, 4));
        }
        isPolynomial(d, 6, 7);
        for (int k = 0; k <= 6; k++) {
            is(k + 1, d.recombined(k));
        }
        // The whole five are saved and undone.
        d.save();
        String five = state(d);
        is(4, d.undo());
        is(4, d.debts());
        fails(INDEX, () -> d.debt(4, 0));
        d.divide(1);
        is(5 + 13, d.debt(4, 3));
        d.restore();
        isText(five, state(d));
        is(5, d.debt(4, 3));
        put(d, text("1 1", 1)).readText();
        is(0, d.debts());
        fails(INDEX, () -> d.debt(0, 0));
    }

    static void debtsOfDegree6() {
        about(51, "To divide by a factor means to replace the polynomial by the quotient; the remainder is a debt.");
        String ones = "1 1 1 1 1 1 1";
        RootDiscs d = of(text(ones, 6));
        is(7, d.divide(1));
        isPolynomial(d, 6, 5, 4, 3, 2, 1);
        // By X + 2: 1, 0, 3, -2, 9 and 6 - 18.
        is(12, d.divide(-2));
        isPolynomial(d, 9, -2, 3, 0, 1);
        is(-12, d.debt(1, 3));
        about(52, "To divide by a factor means to replace the polynomial by the quotient; the remainder is a debt.");
        // By X * X - 2 * X + 2: 1, 3, 5, 5, 1; r1 is 1 + 2 - 10, r0 is 1 - 2.
        RootDiscs p = of("poly " + ones + ";pair 0 1;pair 0 1;pair 0 1;");
        is(8, p.dividePair(1, 1));
        isPolynomial(p, 1, 5, 5, 3, 1);
        is(-7, p.debt(0, 2));
        is(-1, p.debt(0, 3));
        // By X * X + 2 * X + 5: 1, 1, -2; r1 is 5 + 4 - 5, r0 is 1 + 10.
        is(15, p.dividePair(-1, 2));
        isPolynomial(p, -2, 1, 1);
        is(4, p.debt(1, 2));
        is(11, p.debt(1, 3));
        for (int k = 0; k <= 6; k++) {
            is(1, d.recombined(k));
            is(1, p.recombined(k));
        }
        // A debt that was saved or undone is none of those that come then.
        p.undo();
        p.undo();
        p.dividePair(1, 1);
        p.save();
        p.undo();
        p.dividePair(-1, 2);
        is(2, p.debt(0, 1));
        is(true, p.debt(0, 2) != -7);
        p.restore();
        int[] due = {1, 1, -7, -1, 8};
        for (int what = 0; what <= 4; what++) {
            is(due[what], p.debt(0, what));
        }
        p.dividePair(-1, 2);
        p.undo();
        p.undo();
        for (int what = 0; what <= 4; what++) {
            is(due[what], p.debt(0, what));
        }
    }

    static void debtNumbers() {
        about(38, "Throws `IndexOutOfBoundsException` if there is no such debt");
        for (int k : new int[] {1, 2, 5, 6, -1, LEAST, MOST}) {
            refuses(INDEX, d -> d.debt(k, 0));
            refuses(INDEX, d -> d.debt(k, 5));
            refuses(INDEX, d -> d.debt(k, -1));
        }
        fails(INDEX, () -> new RootDiscs().debt(0, 0));
        about(38, "Throws `IllegalArgumentException` if what is out of range");
        for (int what : new int[] {-1, 5, LEAST, MOST}) {
            refuses(ARGUMENT, d -> d.debt(0, what));
        }
        about(38, "0 a, 1 b (0 for X - a), 2 r1, 3 r0, 4 its size");
        // By X * X + 16 * X + 128 first, then by X + 8.
        RootDiscs d = of("poly -99 99 99 99 1;pair -256 256;at -256 0;at 0 0;");
        // 1, 83, and 99 - 16 * 83 - 128 = -1357; r1 = 99 + 16 * 1357 - 128 * 83, r0 = -99 + 128 * 1357.
        is(99 + 21712 - 10624 - 99 + 173696, d.dividePair(-8, 8));
        isPolynomial(d, -1357, 83, 1);
        int[] first = {-8, 8, 11187, 173597, 184784};
        for (int what = 0; what <= 4; what++) {
            is(first[what], d.debt(0, what));
        }
        // 1, 75, and -1357 - 600.
        is(1957, d.divide(-8));
        isPolynomial(d, 75, 1);
        int[] second = {-8, 0, 0, -1957, 1957};
        for (int what = 0; what <= 4; what++) {
            is(second[what], d.debt(1, what));
            is(first[what], d.debt(0, what));
        }
        about(38, "The size of a debt is the absolute value of r1 plus that of r0.");
        // -X * X * X - 1 by X * X + 1: r1 is 1 and r0 is -1.
        RootDiscs e = of("poly -1 0 0 -1;pair 0 1;at 0 0;");
        is(2, e.dividePair(0, 1));
        is(1, e.debt(0, 2));
        is(-1, e.debt(0, 3));
        RootDiscs f = of("poly 1 0 0 1;pair 0 1;at 0 0;");
        is(2, f.dividePair(0, 1));
        is(-1, f.debt(0, 2));
        is(1, f.debt(0, 3));
        RootDiscs none = of("poly 0 1 0 1;pair 0 1;at 0 0;");
        is(0, none.dividePair(0, 1));
        is(1, none.debts());
        is(0, none.debt(0, 4));
    }

    static void recombinedNumbers() {
        about(39, "@throws IndexOutOfBoundsException if k is not 0 to the first degree.");
        RootDiscs d = of("poly 5 -7 3 -2 1 -9;pair -30 40;at 7 -9;at -60 3;at 1 1;");
        int[] due = {5, -7, 3, -2, 1, -9};
        for (int step = 0; step < 4; step++) {
            for (int k = 0; k < due.length; k++) {
                is(due[k], d.recombined(k));
            }
            fails(INDEX, () -> d.recombined(6));
            fails(INDEX, () -> d.recombined(-1));
            fails(INDEX, () -> d.recombined(LEAST));
            fails(INDEX, () -> d.recombined(MOST));
            if (step == 0) {
                d.dividePair(1, 2);
            } else if (step < 3) {
                d.divide(-step);
            }
        }
        is(1, d.degree());
        refuses(INDEX, e -> e.recombined(6));
        refuses(INDEX, e -> e.recombined(-1));
        RootDiscs one = of("poly -99 99;at 0 0;");
        is(-99, one.recombined(0));
        is(99, one.recombined(1));
        fails(INDEX, () -> one.recombined(2));
    }

    static void debtShares() {
        about(40, "Returns the sum of the sizes of all debts as a float, divided by the sum of the absolute values of all coefficients that the text told, as a float.");
        isText("0.0", "" + new RootDiscs().debtShare());
        // 1 / 3 as a float, not as a double.
        RootDiscs d = of("poly 1 -1 1;at 0 0;at 0 0;");
        d.divide(0);
        isText("0.33333334", "" + d.debtShare());
        // 755839 / (99 + 99 + 67 + 52).
        RootDiscs p = of("poly 99 99 67 0 52;pair 0 1;at 0 0;at 0 0;");
        p.dividePair(8, 1);
        isText("" + 755839f / 317f, "" + p.debtShare());
        // The sum of two, and that of the text, not of what is left; minus signs count as plus.
        RootDiscs two = of("poly -5 -6 -7 1;at 0 0;at 0 0;at 0 0;");
        two.divide(0);
        two.divide(0);
        isText("" + 11f / 19f, "" + two.debtShare());
        is(1, two.undo());
        isText("" + 5f / 19f, "" + two.debtShare());
        RootDiscs exact = of("poly 0 0 -1;at 0 0;at 0 0;");
        exact.divide(0);
        isText("0.0", "" + exact.debtShare());
    }

    static void nearestPoints() {
        about(51, "The point without a pair (the first point of a pair) that is nearest (by the square of the distance) to (32 * a, 0) (to (32 * a, 32 * b)), the lowest number of several, goes");
        // From (32, 0), the square of the distance is 32, 25, 25, 25 and 25.
        RootDiscs d = of("poly 0 0 0 0 0 1;at 36 4;at 35 4;at 32 5;at 37 0;at 32 -5;");
        d.divide(1);
        isPlaces(d, 36, 4, 32, 5, 37, 0, 32, -5);
        d.divide(1);
        isPlaces(d, 36, 4, 37, 0, 32, -5);
        d.divide(1);
        isPlaces(d, 36, 4, 32, -5);
        d.divide(1);
        isPlaces(d, 36, 4);
        // By the square, not by the sum of both parts: 5 + 5 is more than 8, but nearer.
        RootDiscs square = of("poly 0 0 1;at 8 0;at 5 5;");
        square.divide(0);
        isPlaces(square, 8, 0);
        // The farthest corners.
        RootDiscs far = of("poly 0 0 1;at -256 -256;at -256 255;");
        far.divide(8);
        isPlaces(far, -256, -256);
        RootDiscs left = of("poly 0 0 1;at 256 -255;at 256 256;");
        left.divide(-8);
        isPlaces(left, 256, 256);
        about(52, "the lowest number of several, goes (with the second one); the numbers of the points behind become lower");
        // From (0, 32), the square of the distance of the first points is 25, 20 and 20.
        RootDiscs p = of("poly 0 0 0 0 0 0 1;pair 0 37;pair 4 30;pair -4 34;");
        p.dividePair(0, 1);
        isPlaces(p, 0, 37, 0, -37, -4, 34, -4, -34);
        is(3, p.point(2, 3));
        p.dividePair(0, 1);
        isPlaces(p, 0, 37, 0, -37);
        RootDiscs corner = of("poly 0 0 0 0 1;pair -256 256;pair 256 255;");
        corner.dividePair(8, 8);
        isPlaces(corner, -256, 256, -256, -256);
        RootDiscs other = of("poly 0 0 0 0 1;pair 256 256;pair -256 1;");
        other.dividePair(-8, 1);
        isPlaces(other, 256, 256, 256, -256);
        // Points without a pair between and behind keep their places, and pairs their two points.
        RootDiscs mixed = of("poly 0 0 0 0 0 0 1;at 1 1;pair 2 2;at 3 3;pair 64 64;");
        mixed.dividePair(0, 1);
        isPlaces(mixed, 1, 1, 3, 3, 64, 64, 64, -64);
        int[] others = {NONE, NONE, 3, 2};
        for (int k = 0; k < 4; k++) {
            is(others[k], mixed.point(k, 3));
        }
        // A point of a pair is none without, however near.
        RootDiscs near = of("poly 0 0 0 0 1;pair 1 1;at -256 256;at 200 0;");
        near.divide(0);
        isPlaces(near, 1, 1, 1, -1, -256, 256);
        // Divisions are no visits.
        is(4, near.places());
        is(1, near.visits(200, 0));
    }

    static void divisionsThatThrow() {
        about(51, "Throws `IllegalArgumentException` if a is out of range");
        // An a out of range is told first, also if there is a reason.
        refuses("poly 1 1;at 0 0;", ARGUMENT, d -> d.divide(9));
        refuses("poly 1 1;at 0 0;", ARGUMENT, d -> d.divide(-9));
        refuses("poly 1 1;at 0 0;", STATE, d -> d.divide(8));
        about(51, "Throws `IllegalStateException` if there is a reason against it");
        refuses("poly 1 1;at 0 0;", STATE, d -> d.divide(-8));
        about(52, "Throws `IllegalArgumentException` if a or b is out of range");
        refuses("poly 1 1 1;pair 0 1;", ARGUMENT, d -> d.dividePair(9, 1));
        refuses("poly 1 1 1;pair 0 1;", ARGUMENT, d -> d.dividePair(0, 0));
        refuses("poly 1 1 1;pair 0 1;", ARGUMENT, d -> d.dividePair(0, 9));
        about(52, "Throws `IllegalStateException` if there is a reason against it");
        refuses("poly 1 1 1;pair 0 1;", STATE, d -> d.dividePair(8, 8));
        refuses("poly 1 1 1;pair 0 1;", STATE, d -> d.dividePair(-8, 1));
        about(51, "Returns the size of the debt.");
        is(0, of("poly -1 0 1;at 0 0;at 0 0;").divide(1));
        is(1, of("poly -1 0 1;at 0 0;at 0 0;").divide(0));
        is(63, of("poly -1 0 1;at 0 0;at 0 0;").divide(-8));
        about(52, "Returns the size of the debt.");
        is(0, of("poly 1 1 1 1;pair 0 1;at 0 0;").dividePair(0, 1));
    }

    // ---- what would be: promises 41 and 42

    static void sweepsForeseen() {
        about(41, "Returns the least number of sweeps, up to limit, behind which all points are settled; NONE if there is none.");
        is(0, of("poly 0 1;at 2 0;").sweepsToSettle(0));
        is(NONE, of("poly 0 1;at 3 0;").sweepsToSettle(0));
        is(1, of("poly 0 1;at 3 0;").sweepsToSettle(1));
        is(1, of("poly 0 1;at 3 0;").sweepsToSettle(200));
        // At 64 a sweep: 256, 192, 128, 64, 0; at 65, 1 is left, which is settled; at 67, 3.
        is(4, of("poly 0 1;at 256 0;").sweepsToSettle(4));
        is(NONE, of("poly 0 1;at 256 0;").sweepsToSettle(3));
        is(1, of("poly 0 1;at 66 0;").sweepsToSettle(200));
        is(2, of("poly 0 1;at 67 0;").sweepsToSettle(200));
        is(2, of("poly 0 1;at 67 0;").sweepsToSettle(2));
        is(NONE, of("poly 0 1;at 67 0;").sweepsToSettle(1));
        // Nothing moves any more, or never settles.
        is(NONE, of("poly 0 0 1;at 9 0;at 9 0;").sweepsToSettle(200));
        is(NONE, of("poly 1 0 1;at 22 0;at -39 0;").sweepsToSettle(200));
        // Sweep by sweep, all are settled behind the 20th one, and not before.
        String slow = "poly 0 1 -3 2;pair -255 29;at -204 -137;";
        RootDiscs swept = of(slow);
        for (int made = 0; made < 20; made++) {
            is(true, swept.settled() != 7);
            is(NONE, of(slow).sweepsToSettle(made));
            swept.sweep();
        }
        is(7, swept.settled());
        is(20, of(slow).sweepsToSettle(20));
        is(20, of(slow).sweepsToSettle(200));
        is(20, of(slow).run(50));
        about(41, "Throws `IllegalArgumentException` if limit is out of range");
        for (int limit : new int[] {-1, 201, LEAST, MOST}) {
            refuses(ARGUMENT, d -> d.sweepsToSettle(limit));
        }
        is(0, of("poly 0 1;at 0 0;").sweepsToSettle(200));
    }

    static void nothingChangesByForeseeing() {
        about(41, "Ahead of the calls `sweepsToSettle`, `meanRadiusBehind` the interface says: ---- what would be; nothing changes.");
        RootDiscs d = busy();
        RootDiscs twin = busy();
        d.sweepsToSettle(200);
        d.meanRadiusBehind();
        d.sweepsToSettle(0);
        isText(state(twin), state(d));
        isText(aside(twin), aside(d));
        isLength(3, d);
        is(twin.undo(), d.undo());
        isText(state(twin), state(d));
        is(twin.restore(), d.restore());
        isText(state(twin), state(d));
        // All is reckoned anew for the object itself then.
        RootDiscs e = new RootDiscs();
        e.meanRadiusBehind();
        is(48, e.point(0, 2));
        e.sweepsToSettle(200);
        is(0, e.settled());
        is(2, e.clusters());
    }

    static void meanRadii() {
        about(42, "the sum of the radii, 9999 for a point without one, divided by their number, both converted");
        // From 3 to 0, from 100 to 36, with (36, 0) left.
        isText("0.0", "" + of("poly 0 1;at 3 0;").meanRadiusBehind());
        isText("36.0", "" + of("poly 0 1;at 100 0;").meanRadiusBehind());
        isText("9999.0", "" + of("poly 0 0 1;at 9 0;at 9 0;").meanRadiusBehind());
        isText("9999.0", "" + of(text("0 0 0 0 0 0 1", 6)).meanRadiusBehind());
        // Points 1 and 2 stay at one place; point 0 lies at 0 and stays: (0 + 9999 + 9999) / 3.
        isText("6666.0", "" + of("poly 0 0 0 1;at 0 0;at -200 0;at -200 0;").meanRadiusBehind());
        // The new object's (40, 0) and (-35, 0) have the radii 16 and 6; nothing was looked at before.
        isText("11.0", "" + new RootDiscs().meanRadiusBehind());
        RootDiscs moved = of("poly 0 1;at 3 0;");
        moved.move(0, 100, 0);
        isText("36.0", "" + moved.meanRadiusBehind());
        // A third of a number, as a double.
        String third = "poly -6 11 -6 1;at 30 0;at 66 0;at 96 0;";
        RootDiscs swept = of(third);
        swept.sweep();
        int sum = swept.point(0, 2) + swept.point(1, 2) + swept.point(2, 2);
        isText("" + sum / 3.0, "" + of(third).meanRadiusBehind());
        RootDiscs same = of("poly 0 0 1;at 9 0;at 9 0;");
        same.meanRadiusBehind();
        is(NONE, same.undo());
    }

    // ---- refining, sweeping: section 2, promises 43 to 45

    static void refinedToTheRim() {
        about(43, "it goes to its place less its step, each coordinate limited to -256 to 256");
        // The root is far beyond, so the step is 64 towards it.
        int[] from = {191, 192, 193, 255, 256};
        int[] to = {255, 256, 256, 256, 256};
        for (int i = 0; i < from.length; i++) {
            RootDiscs right = of("poly -99 1;at " + from[i] + " 0;");
            is(from[i] == 256 ? 0 : 1, right.refine(0));
            isPlaces(right, to[i], 0);
            RootDiscs left = of("poly 99 1;at -" + from[i] + " 0;");
            is(from[i] == 256 ? 0 : 1, left.refine(0));
            isPlaces(left, -to[i], 0);
            // (99 * 1024 - y * y) / (2 * y * i) is less than -64i for y up to 256: the roots are at 318i and -318i.
            int y = from[i];
            RootDiscs up = of("poly 99 0 1;at 0 " + y + ";at 0 -" + 5 + ";");
            long value = 99 * 1024 - (long) y * y;
            is(value, up.value(0, false));
            int stepY = (int) -Math.min(64, value / (y + 5));
            is(stepY, up.step(0, true));
            is(y == 256 ? 0 : 1, up.refine(0));
            isPlaces(up, 0, Math.min(256, y - stepY), 0, -5);
            RootDiscs down = of("poly 99 0 1;at 0 -" + y + ";at 0 5;");
            down.refine(0);
            isPlaces(down, 0, -Math.min(256, y - stepY), 0, 5);
        }
        // A pair at the rim: both stay there.
        RootDiscs pair = of("poly 99 0 1;pair 0 250;");
        is(2, pair.refine(0));
        isPlaces(pair, 0, 256, 0, -256);
        is(0, pair.refine(1));
        is(1, pair.point(0, 3));
    }

    static void pairsAtTheAxis() {
        about(43, "if its y is 1 or more then, the second one goes to the place that the pair asks for; otherwise the pair ends");
        // With V = -1024 - y * y and P = 2 * y * i, the step is (1024 + y * y) / (2 * y), rounded down, in y: 32 for 31, 32, 33.
        RootDiscs stays = of("poly -1 0 1;pair 0 33;");
        is(32, stays.step(0, true));
        is(2, stays.refine(0));
        isPlaces(stays, 0, 1, 0, -1);
        is(1, stays.point(0, 3));
        is(0, stays.point(1, 3));
        RootDiscs ends = of("poly -1 0 1;pair 0 32;");
        is(32, ends.step(0, true));
        is(2, ends.refine(0));
        isPlaces(ends, -1, 0, 1, 0);
        is(NONE, ends.point(0, 3));
        is(NONE, ends.point(1, 3));
        RootDiscs below = of("poly -1 0 1;pair 0 31;");
        is(2, below.refine(1));
        isPlaces(below, -1, 0, 1, 0);
        is(NONE, below.point(1, 3));
        // A pair whose step is 0 stays one, even with y = 1.
        RootDiscs still = of("poly 0 0 1;pair 0 1;");
        is(0, still.step(0, true));
        is(0, still.refine(0));
        is(1, still.point(0, 3));
        is(2, of("poly 0 0 1;pair 0 2;").refine(0));
        about(43, "its first point goes to (x - 1, 0), its second one to (x + 1, 0), each coordinate limited again");
        // V is (-65536, 0), (-65536, 2), (-65536, -2) and (-65536, 0), P is 2i: in y, the steps are 64.
        int[] starts = {-256, -255, 255, 256};
        int[] steps = {0, 1, -1, 0};
        int[] firsts = {-256, -256, 255, 255};
        int[] seconds = {-255, -255, 256, 256};
        for (int i = 0; i < starts.length; i++) {
            RootDiscs d = of("poly 0 " + (starts[i] < 0 ? 16 : -16) + " 1;pair " + starts[i] + " 1;");
            is(steps[i], d.step(0, false));
            is(64, d.step(0, true));
            is(2, d.refine(0));
            isPlaces(d, firsts[i], 0, seconds[i], 0);
            // Only the places at which they end are visited.
            is(4, d.places());
            is(1, d.visits(firsts[i], 0));
            is(1, d.visits(seconds[i], 0));
        }
    }

    static void movedByRefining() {
        about(43, "Returns how many points have another place behind it than before, 0 to 2.");
        is(0, of("poly 0 1;at 0 0;").refine(0));
        is(1, of("poly 0 1;at 1 0;").refine(0));
        is(1, of("poly 0 1;at 0 1;").refine(0));
        is(0, of("poly 1 0 1;pair 0 32;").refine(0));
        is(2, of("poly 1 0 1;pair 0 40;").refine(0));
        is(2, of("poly 1 0 1;pair 0 40;").refine(1));
        is(0, of("poly 0 0 1;at 9 0;at 9 0;").refine(1));
        // It counts for undo though nothing moved.
        RootDiscs d = of("poly 0 1;at 0 0;");
        d.refine(0);
        is(0, d.undo());
        is(1, d.visits(0, 0));
    }

    static void sweeps() {
        about(44, "A sweep refines all points, by number, a pair once (when its first point comes; also if the pair ends by that), each one with the others where they are by then.");
        // One by one is the same as a sweep.
        String[] texts = {"poly 5 -7 3 -2 1 1;at 100 20;pair -30 40;at 7 -9;at -60 3;", "poly 1 1 1 1 1 1 1;pair 9 9;pair 8 1;pair 7 100;",
            "poly -3 1 1 0 2;at 5 5;at 5 5;pair 5 5;"};
        for (String text : texts) {
            RootDiscs swept = of(text);
            RootDiscs byOne = of(text);
            int moved = 0;
            for (int p = 0; p < byOne.degree(); p++) {
                boolean isPair = byOne.point(p, 3) == p + 1;
                moved += byOne.refine(p);
                p += isPair ? 1 : 0;
            }
            is(moved, swept.sweep());
            isText(state(byOne), state(swept));
            is(0, swept.undo());
            isText(state(of(text)), state(swept));
        }
        // (-1, 0) and (1, 0) would be refined again otherwise, to (-33, 0) and so on.
        RootDiscs ends = of("poly -1 0 1;pair 0 1;");
        is(2, ends.sweep());
        isPlaces(ends, -1, 0, 1, 0);
        is(4, ends.places());
        // Two pairs that end, one behind the other.
        RootDiscs both = of("poly -1 0 0 0 1;pair 200 1;pair -200 1;");
        int moved = both.sweep();
        is(4, moved);
        about(44, "@return how many points moved");
        is(0, of("poly 0 1;at 0 0;").sweep());
        is(0, of("poly 1 0 1;pair 0 32;").sweep());
        is(0, of(text("1 1 1 1 1 1 1", 6)).sweep());
        // Without the third point, the first two can not leave one another; it moves alone.
        is(1, of("poly 9 9 9 9;at 40 9;at 40 9;at 3 0;").sweep());
    }

    static void runs() {
        about(45, "Returns the number of sweeps that were made (also that which moved no point), at most so many; 0 if all are settled already.");
        // All settled already, though a sweep would move the point from 2 to 0.
        RootDiscs settled = of("poly 0 1;at 2 0;");
        is(0, settled.run(1));
        is(0, settled.run(50));
        isPlaces(settled, 2, 0);
        is(1, settled.undo());
        is(0, settled.undo());
        RootDiscs far = of("poly 0 1;at 256 0;");
        is(3, far.run(3));
        isPlaces(far, 64, 0);
        is(1, far.run(3));
        isPlaces(far, 0, 0);
        is(4, of("poly 0 1;at 256 0;").run(4));
        is(4, of("poly 0 1;at 256 0;").run(50));
        // Two points at one place never move: the one sweep counts.
        is(1, of("poly 0 0 1;at 9 0;at 9 0;").run(50));
        is(1, of("poly 0 0 1;at 9 0;at 9 0;").run(1));
        // Points on the real axis do not leave it, no disc there settles around 32i, and these two do not meet.
        RootDiscs lost = of("poly 1 0 1;at 22 0;at -39 0;");
        is(50, lost.run(50));
        is(0, lost.undo());
        RootDiscs one = of("poly 1 0 1;at 22 0;at -39 0;");
        for (int i = 0; i < 50; i++) {
            one.sweep();
        }
        is(50, lost.run(50));
        isText(state(one), state(lost));
        about(45, "Throws `IllegalArgumentException` if most is out of range");
        for (int most : new int[] {0, -1, 51, LEAST, MOST}) {
            refuses(ARGUMENT, d -> d.run(most));
        }
        is(1, of("poly 0 1;at 256 0;").run(1));
    }

    // ---- laying: promises 46 and 47

    static void spreads() {
        about(46, "with m, half their number, rounded down, for each k from 0 to m - 1 two of them, in order, become a pair");
        RootDiscs one = of("poly 1 1;at 0 0;");
        is(1, one.spread(256));
        isPlaces(one, -256, 0);
        is(NONE, one.point(0, 3));
        RootDiscs two = of("poly 1 1 1;at 0 0;at 0 0;");
        is(2, two.spread(1));
        isPlaces(two, 0, 1, 0, -1);
        is(1, two.point(0, 3));
        RootDiscs three = of("poly 1 1 1 1;at 0 0;pair 1 1;");
        is(3, three.spread(256));
        isPlaces(three, 0, 256, 0, -256, -256, 0);
        is(NONE, three.point(2, 3));
        is(0, three.point(1, 3));
        about(46, "lies at (2 * r * (k + 1) / (m + 1) - r, r), the quotient rounded down; if their number is odd, the last one lies at (-r, 0), in no pair");
        // With m = 2: 2 / 3 and 4 / 3 are 0 and 1; 512 / 3 and 1024 / 3 are 170 and 341.
        RootDiscs five = of(text("1 1 1 1 1 1", 5));
        is(5, five.spread(1));
        isPlaces(five, -1, 1, -1, -1, 0, 1, 0, -1, -1, 0);
        is(5, five.spread(256));
        isPlaces(five, -86, 256, -86, -256, 85, 256, 85, -256, -256, 0);
        // With m = 3: 6 / 4, 12 / 4 and 18 / 4 are 1, 3 and 4.
        RootDiscs six = of(text("1 1 1 1 1 1 1", 6));
        is(6, six.spread(3));
        isPlaces(six, -2, 3, -2, -3, 0, 3, 0, -3, 1, 3, 1, -3);
        is(0, six.spread(3));
        // Only what has another place moves, though both become a pair.
        RootDiscs some = of("poly 1 1 1;at 0 9;at 5 5;");
        is(1, some.spread(9));
        is(1, some.visits(0, 9));
        is(1, some.point(0, 3));
        about(46, "Throws `IllegalArgumentException` if length is out of range");
        for (int length : new int[] {0, 257, -1, LEAST, MOST}) {
            refuses(ARGUMENT, d -> d.spread(length));
        }
    }

    static void starts() {
        about(47, "for each edge, in order, as many points as its k is less than its j, from point 0 on, at its length");
        // One edge to each k: single points at (-r, 0), and no pairs any more.
        RootDiscs six = of("poly 1 8 32 64 64 32 8;pair 9 9;pair 9 9;pair 9 9;");
        is(6, six.start());
        isPlaces(six, -4, 0, -8, 0, -16, 0, -32, 0, -64, 0, -128, 0);
        for (int p = 0; p < 6; p++) {
            is(NONE, six.point(p, 3));
        }
        is(0, six.start());
        // A pair across two edges ends: 1 point at 1, 2 points at 32, 3 points at 128.
        RootDiscs across = of("poly 1 99 1 99 1 1 1;pair 9 9;pair 9 9;pair 9 9;");
        is(6, across.start());
        isPlaces(across, -1, 0, 0, 32, 0, -32, 0, 128, 0, -128, -128, 0);
        int[] others = {NONE, 2, 1, 4, 3, NONE};
        for (int p = 0; p < 6; p++) {
            is(others[p], across.point(p, 3));
        }
        // c(0) is 0: the first points lie at the length 1.
        RootDiscs zero = of(text("0 0 0 0 0 0 99", 6));
        is(6, zero.start());
        isPlaces(zero, -1, 1, -1, -1, 0, 1, 0, -1, 0, 1, 0, -1);
        RootDiscs one = of("poly 99 1;at 0 0;");
        is(1, one.start());
        isPlaces(one, -256, 0);
        // Behind a division, by what is left.
        RootDiscs left = of("poly 0 0 64 1;at 0 0;at 0 0;at 0 0;");
        left.divide(0);
        is(2, left.start());
        isPlaces(left, -1, 0, -256, 0);
        about(47, "@return how many points moved");
        RootDiscs some = of("poly 1 1 1 1;at 0 32;at 0 -31;at -32 0;");
        is(1, some.start());
        is(1, some.visits(0, 32));
        is(1, some.visits(-32, 0));
        is(1, some.visits(0, -32));
        is(0, some.undo());
        isPlaces(some, 0, 32, 0, -31, -32, 0);
        is(NONE, some.point(0, 3));
    }

    // ---- by hand: promises 48 to 50 and 53

    static void moves() {
        about(48, "Moves a point by hand; the other one of its pair goes to the place that the pair asks for.");
        String text = "poly 1 1 1 1;at 1 2;pair 5 6;";
        for (int x : new int[] {-256, 256}) {
            for (int y : new int[] {-256, 256}) {
                RootDiscs d = of(text);
                is(1, d.move(0, x, y));
                isPlaces(d, x, y, 5, 6, 5, -6);
                is(2, d.move(y > 0 ? 1 : 2, x, y));
                isPlaces(d, x, y, x, 256, x, -256);
                is(3, d.visits(x, 256) + d.visits(x, -256));
            }
        }
        about(48, "Throws `IllegalArgumentException` if x or y is out of range");
        for (int p = 0; p < 3; p++) {
            int point = p;
            int y = p == 2 ? -1 : 1;
            for (int far : new int[] {-257, 257, LEAST, MOST}) {
                refuses(text, ARGUMENT, d -> d.move(point, far, y));
                refuses(text, ARGUMENT, d -> d.move(point, 0, far));
            }
        }
        about(48, "Throws `IllegalStateException` if the y of the first point of its pair would be less than 1");
        is(2, of(text).move(1, 5, 1));
        is(2, of(text).move(2, 5, -1));
        refuses(text, STATE, d -> d.move(1, 5, 0));
        refuses(text, STATE, d -> d.move(1, 5, -1));
        refuses(text, STATE, d -> d.move(1, 5, -256));
        refuses(text, STATE, d -> d.move(2, 5, 0));
        refuses(text, STATE, d -> d.move(2, 5, 1));
        refuses(text, STATE, d -> d.move(2, 5, 256));
        is(1, of(text).move(0, 5, -1));
        about(48, "If several exceptions apply to a call, the one that is listed first is thrown.");
        refuses(text, INDEX, d -> d.move(3, 257, 0));
        refuses(text, INDEX, d -> d.move(-1, 0, LEAST));
        refuses(text, ARGUMENT, d -> d.move(1, 257, 0));
        refuses(text, ARGUMENT, d -> d.move(1, 0, -257));
        refuses(text, ARGUMENT, d -> d.move(2, 0, 257));
        about(48, "Returns how many points moved.");
        is(0, of(text).move(0, 1, 2));
        is(0, of(text).move(1, 5, 6));
        is(0, of(text).move(2, 5, -6));
        RootDiscs same = of(text);
        same.move(2, 5, -6);
        is(1, same.visits(5, 6));
        is(0, same.undo());
    }

    static void joins() {
        about(49, "Throws `IllegalStateException` if there is no next one, one of both is in a pair, or the y of the first one is less than 1");
        String text = "poly 1 1 1 1 1 1;at 3 1;at 4 0;pair 5 6;at 7 8;";
        refuses(text, STATE, d -> d.join(4));
        refuses(text, STATE, d -> d.join(1));
        refuses(text, STATE, d -> d.join(2));
        refuses(text, STATE, d -> d.join(3));
        refuses("poly 1 1 1;at 0 0;at 0 5;", STATE, d -> d.join(0));
        refuses("poly 1 1 1;at 0 -1;at 0 5;", STATE, d -> d.join(0));
        refuses("poly 1 1 1;at 0 -256;at 0 256;", STATE, d -> d.join(0));
        refuses("poly 1 1;at 0 5;", STATE, d -> d.join(0));
        refuses("poly 1 1;at 0 5;", INDEX, d -> d.join(1));
        // The next one is in a pair: alone ahead of a pair, with y from 1 on.
        refuses("poly 1 1 1 1;at 0 5;pair 1 1;", STATE, d -> d.join(0));
        refuses("poly 1 1 1 1;pair 1 1;at 0 5;", STATE, d -> d.join(1));
        about(49, "Returns the y of the second one.");
        RootDiscs d = of(text);
        is(-1, d.join(0));
        isPlaces(d, 3, 1, 3, -1, 5, 6, 5, -6, 7, 8);
        is(1, d.point(0, 3));
        is(0, d.point(1, 3));
        is(0, d.undo());
        isText(state(of(text)), state(d));
        RootDiscs e = of("poly 1 1 1;at -256 256;at 0 0;");
        is(-256, e.join(0));
        isPlaces(e, -256, 256, -256, -256);
        is(1, e.visits(-256, -256));
        // The second one is there already: no visit.
        RootDiscs f = of("poly 1 1 1;at 0 1;at 0 -1;");
        is(-1, f.join(0));
        is(2, f.places());
        is(1, f.visits(0, -1));
        is(0, f.undo());
        is(NONE, f.point(0, 3));
        // The last two of six.
        RootDiscs six = of("poly 1 1 1 1 1 1 1;at 0 0;at 0 0;at 0 0;at 0 0;at 8 9;at 0 0;");
        is(-9, six.join(4));
        is(5, six.point(4, 3));
        fails(STATE, () -> six.join(5));
    }

    static void parts() {
        about(50, "Throws `IllegalStateException` if the point is in no pair");
        String text = "poly 1 1 1 1 1 1;at 3 1;pair 5 6;pair 7 8;";
        refuses(text, STATE, d -> d.part(0));
        refuses(text, INDEX, d -> d.part(5));
        refuses(text, INDEX, d -> d.part(-1));
        refuses("poly 1 1;at 0 0;", STATE, d -> d.part(0));
        refuses("poly 1 1;at 0 0;", INDEX, d -> d.part(1));
        about(50, "Ends a pair; both points stay where they are. Returns the first point of it.");
        for (int p = 1; p <= 4; p++) {
            RootDiscs d = of(text);
            is(p < 3 ? 1 : 3, d.part(p));
            isPlaces(d, 3, 1, 5, 6, 5, -6, 7, 8, 7, -8);
            is(p < 3 ? NONE : 2, d.point(1, 3));
            is(p < 3 ? NONE : 1, d.point(2, 3));
            is(p < 3 ? 4 : NONE, d.point(3, 3));
            is(p < 3 ? 3 : NONE, d.point(4, 3));
            is(5, d.places());
            is(1, d.visits(5, 6));
            int part = p;
            fails(STATE, () -> d.part(part));
            is(0, d.undo());
            isText(state(of(text)), state(d));
        }
    }

    static void goalsSet() {
        about(53, "Throws `IllegalArgumentException` if goal is out of range");
        for (int goal : new int[] {0, 100, -1, LEAST, MOST}) {
            refuses(ARGUMENT, d -> d.setGoal(goal));
        }
        about(53, "Sets the goal. - `goal`: 1 to 99 Returns the previous one.");
        RootDiscs d = new RootDiscs();
        is(2, d.setGoal(1));
        is(1, d.setGoal(99));
        is(99, d.setGoal(99));
        is(99, d.goal());
        is(2, d.undo());
        is(99, d.goal());
        is(1, d.undo());
        is(1, d.goal());
        is(0, d.undo());
        is(2, d.goal());
    }

    // ---- visits: section 6, promises 33 and 34

    static void latestVisits() {
        about(33, "The latest 200 visits are kept.");
        RootDiscs d = of("poly 1 1 1;at 100 0;at 0 100;");
        for (int i = 1; i <= 198; i++) {
            d.move(0, i % 2 == 0 ? 8 : 9, i % 3);
        }
        is(1, d.visits(100, 0));
        is(1, d.visits(0, 100));
        is(8, d.places());
        d.move(0, 50, 50);
        is(0, d.visits(100, 0));
        is(1, d.visits(0, 100));
        is(8, d.places());
        d.move(1, 51, 51);
        is(0, d.visits(0, 100));
        is(8, d.places());
        // The call that took their room is undone: they are there again.
        is(5, d.undo());
        is(1, d.visits(0, 100));
        is(0, d.visits(51, 51));
        is(4, d.undo());
        is(1, d.visits(100, 0));
        // The ring goes round more than once.
        for (int i = 0; i < 210; i++) {
            d.move(0, 20 + i % 2, 0);
        }
        is(2, d.places());
        is(100, d.visits(20, 0));
        is(100, d.visits(21, 0));
        is(0, d.visits(8, 0));
    }

    /** Fills the visits, so that just the ones of the next calls are there in their order, and so many of those before. */
    private static RootDiscs filled(String text, int moves) {
        RootDiscs d = of(text);
        int last = d.degree() - 1;
        for (int i = 0; i < moves; i++) {
            d.move(last, 250 + i % 2, 250);
        }
        return d;
    }

    static void orderOfVisits() {
        about(33, "of two points of a pair the first one first");
        // Pair (5, 6), told first one first, then the last point: with 198 and 199 more the first and the second one go.
        String pair = "poly 1 1 1 1;pair 5 6;at 0 0;";
        is(1, filled(pair, 197).visits(5, 6));
        is(0, filled(pair, 198).visits(5, 6));
        is(1, filled(pair, 198).visits(5, -6));
        is(0, filled(pair, 199).visits(5, -6));
        is(1, filled(pair, 199).visits(0, 0));
        is(0, filled(pair, 200).visits(0, 0));
        // Moved by the second point, by refining, by laying and where the pair ends: the first one first.
        CallOn[] calls = {d -> d.move(1, 9, -9), d -> d.move(0, 9, 9), d -> d.refine(1), d -> d.sweep(), d -> d.spread(77)};
        for (CallOn call : calls) {
            String[] texts = {"poly 1 1 1 1;pair 50 60;at 100 0;", "poly -1 0 0 1;pair -200 1;at 100 0;"};
            for (String text : texts) {
                RootDiscs d = of(text);
                call.go(d);
                int x0 = d.point(0, 0);
                int y0 = d.point(0, 1);
                int x1 = d.point(1, 0);
                int y1 = d.point(1, 1);
                boolean isThirdMoved = d.visits(100, 0) != 1 || d.point(2, 0) != 100 || d.point(2, 1) != 0;
                // Five or six visits are there; the first three are told by the text.
                int told = isThirdMoved ? 6 : 5;
                for (int i = 0; i < 200 - told + 4; i++) {
                    d.move(2, 250 + i % 2, 250);
                }
                is(0, d.visits(x0, y0));
                is(1, d.visits(x1, y1));
            }
        }
    }

    static void eachVisit() {
        about(33, "Each place where a point comes to be is visited once by it: when a text tells it (a point, or both of a pair, the first one first), and at once each time a step, a hand or anything else moves a point to another place");
        // Told twice is visited twice; staying is no visit.
        RootDiscs d = of("poly 0 0 0 0 1;at 9 9;at 9 9;pair 9 9;");
        is(3, d.visits(9, 9));
        is(1, d.visits(9, -9));
        d.move(0, 9, 9);
        d.refine(0);
        is(3, d.visits(9, 9));
        // There and back again is two visits.
        d.move(0, 1, 1);
        d.move(0, 9, 9);
        is(4, d.visits(9, 9));
        is(1, d.visits(1, 1));
        // In each sweep of a call anew: 256, 192, 128, 64, 0.
        RootDiscs run = of("poly 0 1;at 256 0;");
        run.run(50);
        is(5, run.places());
        for (int x = 0; x <= 256; x += 64) {
            is(1, run.visits(x, 0));
        }
        // And in a script.
        RootDiscs script = of("poly 0 1;at 256 0;");
        run(script, "run 2;repeat 2(move 0 256 0;run 1;);");
        is(3, script.visits(192, 0));
        is(3, script.visits(256, 0));
        is(1, script.visits(128, 0));
        // Parting, dividing, reports and saving are none.
        RootDiscs none = of("poly 1 1 1 1;pair 5 6;at 7 7;");
        none.part(0);
        none.divide(0);
        none.report();
        none.save();
        none.setGoal(5);
        is(1, none.visits(5, 6));
        is(1, none.visits(7, 7));
        is(3, none.places());
        // Nor are undo and restore: the visits are those of the state.
        RootDiscs undone = of("poly 0 1;at 256 0;");
        undone.save();
        undone.sweep();
        undone.undo();
        is(1, undone.visits(256, 0));
        is(0, undone.visits(192, 0));
        undone.sweep();
        undone.restore();
        is(1, undone.visits(256, 0));
        is(1, undone.places());
        about(34, "where a pair ends, only the places at which its points end");
        RootDiscs ends = of("poly -1 0 1;pair 0 32;");
        ends.sweep();
        is(0, ends.visits(0, 0));
        is(4, ends.places());
    }

    // ---- reports: promises 54 and 55

    static void reports() {
        about(54, "for each point its x, a space, its y, a space and its radius (a question mark without one), behind it a \"p\" if it is in a pair, an \"r\" if it is surely real, and a line feed; negative numbers have a minus sign");
        isText("0 0 0r\n", reported(of("poly 0 1;at 0 0;")));
        isText("-1 9 10r\n", reported(of("poly 0 1;at -1 9;")));
        isText("10 -9 19r\n", reported(of("poly 0 1;at 10 -9;")));
        isText("99 0 99r\n", reported(of("poly 0 1;at 99 0;")));
        isText("-100 0 100r\n", reported(of("poly 0 1;at -100 0;")));
        isText("-256 256 512r\n", reported(of("poly 0 1;at -256 256;")));
        isText("0 7 999r\n", reported(of("poly 31 1;at 0 7;")));
        isText("0 8 1000r\n", reported(of("poly 31 1;at 0 8;")));
        // In a pair and without a radius: 2 * 101385 / 18 is above 9999.
        isText("0 1 ?p\n0 -1 ?p\n", reported(of("poly -99 0 9;pair 0 1;")));
        isText("9 9 ?\n9 9 ?\n", reported(of("poly 0 0 1;at 9 9;at 9 9;")));
        // Neither in a pair nor real.
        isText("0 32 0\n0 -32 0\n", reported(of("poly 1 0 1;at 0 32;at 0 -32;")));
        // 9999 has four digits.
        is(0, reported(of("poly 6 0 0 59;at 0 0;at 1 0;at -1 0;")).indexOf("0 0 9999\n"));
        about(54, "@return the number of its bytes");
        is(7, of("poly 0 1;at 0 0;").report());
        is(14, of("poly 0 1;at -256 256;").report());
        // Six points with the longest lines: each has "-256 -256 " or "-256 256 " and what comes then.
        RootDiscs six = of("poly 99 99 99 99 99 99 99;pair -256 256;pair -255 255;pair -254 254;");
        String all = reported(six);
        StringBuilder due = new StringBuilder();
        for (int p = 0; p < 6; p++) {
            int radius = six.point(p, 2);
            due.append(six.point(p, 0)).append(' ').append(six.point(p, 1)).append(' ');
            due.append(radius == NONE ? "?" : "" + radius).append("p\n");
        }
        isText(due.toString(), all);
        is(due.length(), six.report());
    }

    static void longestReport() {
        about(54, "Writes a report, in place of the one before");
        // Six lines of 15 and 14 signs each: "-200 200 7680p" and so on would be the longest; all bytes are there.
        RootDiscs six = of("poly 1 1 1 1 1 1 1;pair -256 256;pair -156 256;pair -200 150;");
        int length = six.report();
        is('\n', six.reportByte(length - 1));
        fails(INDEX, () -> six.reportByte(length));
        isText(kept(six, length), reported(six));
        // A shorter one leaves nothing of the longer one.
        put(six, "poly 0 1;at 0 0;").readText();
        is(7, six.report());
        isText("0 0 0r\n", kept(six, 7));
        fails(INDEX, () -> six.reportByte(7));
        fails(INDEX, () -> six.reportByte(length - 1));
    }

    static void reportBytes() {
        about(55, "Throws `IndexOutOfBoundsException` if there is no such byte, or there was no report");
        for (int i : new int[] {0, -1, 1, LEAST, MOST}) {
            fails(INDEX, () -> new RootDiscs().reportByte(i));
        }
        RootDiscs d = new RootDiscs();
        is(19, d.report());
        is('6', d.reportByte(0));
        is('\n', d.reportByte(18));
        for (int i : new int[] {19, 20, 127, 128, -1, LEAST, MOST}) {
            fails(INDEX, () -> d.reportByte(i));
        }
        refuses(INDEX, e -> e.reportByte(-1));
        refuses(INDEX, e -> e.reportByte(200));
        about(55, "Returns this byte of the latest report.");
        // What changes behind it changes nothing in it.
        d.sweep();
        put(d, "spread 9;");
        d.runScript();
        d.part(0);
        d.divide(1);
        put(d, "x");
        fails(ARGUMENT, () -> d.readText());
        d.undo();
        d.undo();
        isText("64 0 48r\n-64 0 48r\n", kept(d, 19));
        fails(INDEX, () -> d.reportByte(19));
    }

    // ---- undo: section 8, promise 56

    static void sixUndos() {
        about(56, "can be undone, the latest first; the latest 6 of them are kept");
        for (int calls = 0; calls <= 14; calls++) {
            RootDiscs d = new RootDiscs();
            for (int i = 1; i <= calls; i++) {
                d.setGoal(10 + i);
            }
            int kept = Math.min(6, calls);
            for (int i = 1; i <= kept; i++) {
                is(kept - i, d.undo());
                is(calls - i == 0 ? 2 : 10 + calls - i, d.goal());
            }
            about(56, "Undoes the latest call that can be undone. @return the number of calls that can still be undone; NONE, and nothing changes, if there is none");
            String left = state(d);
            is(NONE, d.undo());
            is(NONE, d.undo());
            isText(left, state(d));
            d.setGoal(50);
            is(0, d.undo());
            isText(left, state(d));
            is(NONE, d.undo());
        }
    }

    static void eachChangeUndone() {
        about(56, "Each call of a method below \"changes\" and each call of runScript() (as a whole, also if no command was done) that was done without an exception can be undone");
        String text = "poly 5 -7 3 -2 1 1;at 100 20;pair -30 40;at 7 -9;at -60 3;";
        CallOn[] changes = {d -> d.refine(0), d -> d.refine(2), d -> d.sweep(), d -> d.run(9), d -> d.spread(33), d -> d.start(),
            d -> d.move(4, 1, 1), d -> d.move(1, 1, 1), d -> d.join(3), d -> d.part(2), d -> d.divide(3), d -> d.dividePair(1, 2),
            d -> d.setGoal(9), d -> run(d, "sweep;goal 8;start;divide 1;"), d -> run(d, "sweep;refine 9;start;")};
        String joinable = text.replace("at 7 -9", "at 7 9");
        for (CallOn change : changes) {
            RootDiscs d = of(joinable);
            change.go(d);
            is(false, state(d).equals(state(of(joinable))));
            is(0, d.undo());
            isText(state(of(joinable)), state(d));
            is(NONE, d.undo());
        }
        // Also a call that changed nothing.
        CallOn[] idle = {d -> d.refine(0), d -> d.sweep(), d -> d.run(1), d -> d.move(0, 0, 0), d -> d.setGoal(2), d -> run(d, ""),
            d -> run(d, "refine 9;"), d -> run(d, "repeat 2();")};
        for (CallOn change : idle) {
            RootDiscs d = of("poly 0 1;at 0 0;");
            change.go(d);
            isText(state(of("poly 0 1;at 0 0;")), state(d));
            is(0, d.undo());
            is(NONE, d.undo());
        }
        RootDiscs laid = of("poly 0 1;at -1 0;");
        laid.spread(1);
        laid.start();
        is(1, laid.undo());
        is(0, laid.undo());
        // Other calls can not be undone.
        RootDiscs other = new RootDiscs();
        other.save();
        other.report();
        other.feed(1, 2, 3, 4, 5);
        other.truncate(0);
        other.sweepsToSettle(5);
        other.meanRadiusBehind();
        other.holding(1, 1);
        is(NONE, other.undo());
    }

    static void notUndone() {
        about(56, "All is as before it then but the report, the buffer, the error and what is saved.");
        RootDiscs d = new RootDiscs();
        d.save();
        d.move(0, 5, 5);
        d.save();
        d.report();
        put(d, "x");
        fails(ARGUMENT, () -> d.runScript());
        put(d, "abc");
        is(0, d.undo());
        isPlaces(d, 64, 0, -64, 0);
        is(1, d.errorCode());
        is(0, d.errorPosition());
        isLength(3, d);
        is('5', d.reportByte(0));
        is(2, d.restore());
        isPlaces(d, 5, 5, -64, 0);
        // The error of a script that is undone stays none.
        RootDiscs e = new RootDiscs();
        put(e, "x");
        fails(ARGUMENT, () -> e.readText());
        run(e, "goal 5;");
        e.undo();
        is(0, e.errorCode());
        is(NONE, e.errorPosition());
    }

    static void forgottenUndos() {
        about(56, "readText() and restore() forget them.");
        RootDiscs d = new RootDiscs();
        d.setGoal(3);
        d.setGoal(4);
        put(d, "poly 0 1;at 0 0;");
        is(1, d.readText());
        is(NONE, d.undo());
        is(1, d.degree());
        d.save();
        d.setGoal(5);
        is(1, d.restore());
        is(NONE, d.undo());
        is(2, d.goal());
        // Calls behind it count from none again, and never reach back.
        for (int i = 0; i < 4; i++) {
            d.setGoal(10 + i);
        }
        is(3, d.undo());
        d.restore();
        for (int i = 0; i < 8; i++) {
            d.setGoal(20 + i);
        }
        for (int i = 5; i >= 0; i--) {
            is(i, d.undo());
        }
        is(21, d.goal());
        is(NONE, d.undo());
        // Those that throw forget nothing.
        RootDiscs e = new RootDiscs();
        e.setGoal(3);
        fails(STATE, () -> e.restore());
        fails(ARGUMENT, () -> e.readText());
        fails(ARGUMENT, () -> put(e, "x").runScript());
        is(0, e.undo());
        is(2, e.goal());
    }

    static void whatThrowsIsNotKept() {
        about(56, "A call that throws an exception changes nothing, unless something else is said.");
        RootDiscs d = new RootDiscs();
        d.setGoal(3);
        fails(INDEX, () -> d.refine(2));
        fails(ARGUMENT, () -> d.run(0));
        fails(ARGUMENT, () -> d.spread(0));
        fails(INDEX, () -> d.move(2, 0, 0));
        fails(ARGUMENT, () -> d.move(0, 257, 0));
        fails(STATE, () -> d.join(0));
        fails(STATE, () -> d.part(0));
        fails(ARGUMENT, () -> d.divide(9));
        fails(STATE, () -> d.dividePair(0, 1));
        fails(ARGUMENT, () -> d.setGoal(0));
        fails(STATE, () -> d.restore());
        is(0, d.undo());
        isNew(d);
    }

    // ---- a saved state: promises 57 and 58

    static void savedStates() {
        about(57, "Saves all but the buffer, the error, the report, what can be undone and what is saved, in place of an earlier one.");
        String text = "poly 5 -7 3 -2 1 1;at 100 20;pair -30 40;at 7 -9;at -60 3;goal 7;";
        RootDiscs d = of(text);
        d.divide(1);
        d.dividePair(1, 2);
        d.sweep();
        d.report();
        String due = state(d);
        is(2, d.save());
        put(d, "poly 0 1;at 1 1;").readText();
        put(d, "x");
        fails(ARGUMENT, () -> d.runScript());
        put(d, "abcd");
        d.report();
        is(2, d.restore());
        isText(due, state(d));
        is(1, d.errorCode());
        is(0, d.errorPosition());
        isLength(4, d);
        is('1', d.reportByte(0));
        about(57, "@return the degree");
        for (int n = 1; n <= 6; n++) {
            RootDiscs e = of(text("1 1 1 1 1 1 1".substring(0, 2 * n + 1), n));
            is(n, e.save());
        }
        // In place of an earlier one; it can not be undone, and takes nothing from what can.
        RootDiscs e = new RootDiscs();
        e.setGoal(3);
        is(2, e.save());
        e.setGoal(4);
        is(2, e.save());
        is(1, e.undo());
        is(0, e.undo());
        is(2, e.goal());
        is(2, e.restore());
        is(4, e.goal());
    }

    static void restoredStates() {
        about(58, "Throws `IllegalStateException` if nothing was saved");
        fails(STATE, () -> new RootDiscs().restore());
        RootDiscs d = of("poly 0 1;at 3 0;");
        fails(STATE, () -> d.restore());
        d.setGoal(9);
        fails(STATE, () -> d.restore());
        is(0, d.undo());
        is(1, d.save());
        about(58, "Restores what was saved, which stays. Returns the degree then.");
        for (int i = 0; i < 4; i++) {
            put(d, text("1 1 1 1 1 1 1", 6)).readText();
            is(1, d.restore());
            isPlaces(d, 3, 0);
            is(1, d.restore());
            d.sweep();
            isPlaces(d, 0, 0);
            is(2, d.places());
            is(0, d.undo());
            d.move(0, 9, 9);
            d.setGoal(50);
            is(1, d.restore());
            is(2, d.goal());
            is(1, d.places());
            isPlaces(d, 3, 0);
        }
        // A new text leaves it, also one with an error.
        put(d, "poly 1 1;");
        fails(ARGUMENT, () -> d.readText());
        is(1, d.restore());
    }
}
