/**
 * For each promise of the document: ordinary inputs, the edges that the document names, and wrong inputs.
 * The numbers that are due were reckoned by hand from the document.
 */
public final class PromiseTest extends Checks {
    public static void main(String[] args) {
        texts();
        textErrors();
        scripts();
        scriptErrors();
        polynomial();
        points();
        steps();
        discs();
        visits();
        factors();
        foreseen();
        refining();
        laying();
        hands();
        dividing();
        reports();
        undoing();
        saving();
        System.out.println(checks + " checks of the promises, " + wrong + " wrong");
        if (wrong != 0) {
            System.exit(1);
        }
    }

    // ---- texts: promises 1 to 7

    private static void texts() {
        promise = 1;
        RootDiscs a = new RootDiscs();
        is(-1, RootDiscs.NONE);
        is(0, a.errorCode());
        is(-1, a.errorPosition());
        fails(ARGUMENT, () -> a.truncate(1));
        fails(INDEX, () -> a.reportByte(0));
        fails(STATE, () -> a.restore());
        isNew(a);

        promise = 2;
        for (int i = 1; i <= 20; i++) {
            is(20 * i, a.feed(i, 0, 0, 0, 0));
        }
        fails(STATE, () -> a.feed(0, 0, 0, 0, 0));
        is(381, a.truncate(381));
        fails(STATE, () -> a.feed(0, 0, 0, 0, 0));
        fails(ARGUMENT, () -> a.truncate(382));
        is(380, a.truncate(380));
        is(400, a.feed(0, 0, 0, 0, 0));
        is(0, a.truncate(0));
        // "poly", " 1 2", ";at ", "-64 ", "0;" and two bytes that are cut off: the most significant byte first.
        is(20, a.feed(0x706f6c79, 0x20312032, 0x3b617420, 0x2d363420, 0x303b8000));
        is(18, a.truncate(18));
        is(1, a.readText());
        is(-64, a.point(0, 0));
        // The bytes 128 to 255 are no blanks and no letters.
        is(20, a.feed(0x20208000, 0, 0, 0, 0));
        is(3, a.truncate(3));
        fails(ARGUMENT, () -> a.readText());
        is(2, a.errorPosition());

        promise = 3;
        RootDiscs b = new RootDiscs();
        fails(ARGUMENT, () -> b.truncate(-1));
        fails(ARGUMENT, () -> b.truncate(LEAST));
        fails(ARGUMENT, () -> b.truncate(MOST));
        is(0, b.truncate(0));
        is(20, b.feed(1, 2, 3, 4, 5));
        fails(ARGUMENT, () -> b.truncate(21));
        is(20, b.truncate(20));
        is(7, b.truncate(7));
        fails(ARGUMENT, () -> b.truncate(8));
        is(27, b.feed(1, 2, 3, 4, 5));

        promise = 4;
        RootDiscs c = put(new RootDiscs(), " \npoly-1 0 -0 2;goal 99;at -256 256;\npair 7 - 0;");
        fails(ARGUMENT, () -> c.readText());
        is(2, c.errorCode());
        put(c, " \npoly-1 0 -0 2 ; goal 99;at -256 0256;\npair - 7 1;\n ");
        c.save();
        is(19, c.report());
        c.sweep();
        is(3, c.readText());
        is(0, c.errorCode());
        is(-1, c.errorPosition());
        isPolynomial(c, -1, 0, 0, 2);
        is(3, c.firstDegree());
        isPlaces(c, -256, 256, -7, 1, -7, -1);
        is(-1, c.point(0, 3));
        is(2, c.point(1, 3));
        is(1, c.point(2, 3));
        is(99, c.goal());
        is(3, c.places());
        is(1, c.visits(-7, -1));
        is(0, c.visits(64, 0));
        is(-1, c.undo());
        is('6', c.reportByte(0));
        fails(ARGUMENT, () -> c.truncate(1));
        is(2, c.restore());
        isPlaces(c, 64, 0, -64, 0);
        is(2, of("poly 0 0 1;at 0 0;at 0 0;").visits(0, 0));
        is(2, of("poly 0 0 1;at 0 0;at 0 0;").goal());
        is(6, of("poly 99 -99 1 2 3 4 -99;pair 256 256;pair 0 1;pair -256 256;").degree());
        // An error leaves what can be undone, and the debts.
        RootDiscs e = new RootDiscs();
        e.divide(1);
        put(e, "poly 1 1;");
        fails(ARGUMENT, () -> e.readText());
        is(1, e.debts());
        is(0, e.undo());
        is(1, put(e, "poly 1 1;at 5 5;").readText());
        is(0, e.debts());
    }

    private static void textErrors() {
        promise = 6;
        error("", 1, 0);
        error(" \n", 1, 2);
        error("foo;", 1, 0);
        error("Poly 1 1;", 1, 0);
        error("polypoly 1 1;", 1, 0);
        error("polypolyp 1 1;", 1, 0);
        error("poly", 1, 4);
        error("poly ;", 1, 5);
        error("poly 1;", 1, 6);
        error("poly 0;", 1, 6);
        error("poly 1 1", 1, 8);
        error("poly 1 1 x;", 1, 9);
        error("poly 1 --1;", 1, 8);
        error("poly 1 -;", 1, 8);
        error("poly 1 00001;", 1, 7);
        error("poly 1 1;\tat 0 0;", 1, 9);
        error("poly 1 1;(", 1, 9);
        error("poly 1 1;poly 1 1;", 1, 9);
        error("poly 1 1;refine 1;", 1, 9);
        error("poly 1 1;;", 1, 9);
        error("poly 1 1;at", 1, 11);
        error("poly 1 1;at 1", 1, 13);
        error("poly 1 1;at 1 1", 1, 15);
        error("poly 1 1;at 1 1 1;", 1, 16);
        error("poly 1 1;at 0 0;at", 6, 16);
        error("poly 1 1;at 0 0;goal", 1, 20);
        error("poly 1 1;at 0 0;goal -1;", 1, 21);
        error("poly 1 1;at 0 0;goal 1 2;", 1, 23);
        error("poly 1 2 3 4 5 6 7 8;", 1, 19);
        error("poly 1 2 3 4 5 6 7 -8;", 1, 19);
        error("poly 1 2 3 4 5 6 7 100;", 1, 19);
        error("poly 1 2 3 4 5 6 0 0;", 1, 19);

        error("poly 100 1;", 2, 5);
        error("poly 1 -100;", 2, 8);
        error("poly 1 - 0100;", 2, 9);
        error("poly 1 1;at 257 0;", 2, 12);
        error("poly 1 1;at -257 0;", 2, 13);
        error("poly 1 1;at 0 257;", 2, 14);
        error("poly 1 1;at 0 -9999;", 2, 15);
        error("poly 1 1 1;pair 257 1;", 2, 16);
        error("poly 1 1 1;pair 0 0;", 2, 18);
        error("poly 1 1 1;pair 0 -1;", 2, 19);
        error("poly 1 1 1;pair 0 257;", 2, 18);
        error("poly 1 1;goal 0;", 2, 14);
        error("poly 1 1;goal 100;", 2, 14);

        error("poly 1 0;", 3, 8);
        error("poly 0 0 ;", 3, 9);
        error("poly 1 2 3 4 5 6 -0;", 3, 19);
        error("poly 1 1;goal 1;goal 1;", 3, 16);
        error("poly 1 1;goal 1;goal 100", 3, 16);

        error("poly 1 1;", 5, 9);
        error("poly 1 1 1;at 0 0; \n", 5, 20);
        error("poly 1 1 1;goal 5;", 5, 18);
        error("poly 1 1 1;at 0 0;at 1", 1, 22);

        error("poly 1 1;pair 0 1;", 6, 9);
        error("poly 1 1;pair 999", 6, 9);
        error("poly 1 1 1;at 0 0;pair 0 1;", 6, 18);
        error("poly 1 1 1;pair 0 1; at 0 0;", 6, 21);

        promise = 7;
        RootDiscs d = put(new RootDiscs(), "poly 1 1;x");
        fails(ARGUMENT, () -> d.readText());
        is(9, d.errorPosition());
        d.sweep();
        d.save();
        is(0, d.undo());
        d.restore();
        is(1, d.errorCode());
        is(9, d.errorPosition());
        is(0, run(d, ""));
        is(0, d.errorCode());
        is(-1, d.errorPosition());
    }

    // ---- scripts: promise 5

    private static void scripts() {
        promise = 5;
        RootDiscs a = new RootDiscs();
        is(0, a.runScript());
        is(0, run(a, "repeat 20();"));
        is(0, run(a, "repeat 20(repeat 20(););"));
        is(2, a.undo());
        is(1, run(a, "sweep;"));
        isPlaces(a, 40, 0, -35, 0);
        is(2, a.undo());
        isPlaces(a, 64, 0, -64, 0);
        is(1, run(a, "refine 0 ;"));
        isPlaces(a, 40, 0, -64, 0);
        is(1, run(a, "refine1;"));
        isPlaces(a, 40, 0, -35, 0);
        is(2, run(a, " move 0 64 - 0;\nmove 1 -64 0;"));
        is(1, run(a, "run 50;"));
        isPlaces(a, 33, 0, -33, 0);
        is(2, run(a, "spread 10;goal 7;"));
        is(7, a.goal());
        isPlaces(a, 0, 10, 0, -10);
        is(1, run(a, "start;"));
        isPlaces(a, 0, 32, 0, -32);
        a.part(0);
        is(1, run(a, "divide 1;"));
        is(1, a.debts());
        is(1, a.degree());

        // A command whose method would throw ends the script, and is not counted.
        String[] throwing = {"refine 2", "run 0", "run 51", "spread 0", "spread 257", "move 2 0 0", "move 0 257 0",
            "move 0 0 -257", "divide 9", "divide -9", "divide 0 pair 1", "divide 0 pair 0", "divide 9 pair 9",
            "goal 0", "goal 100"};
        for (String command : throwing) {
            RootDiscs b = new RootDiscs();
            is(1, run(b, "goal 5;" + command + ";goal 6;"));
            is(5, b.goal());
            isPlaces(b, 64, 0, -64, 0);
            is(0, b.undo());
            is(2, b.goal());
            is(1, run(b, "repeat 20(repeat 3(goal 7;" + command + ";););goal 8;"));
            is(7, b.goal());
        }
        is(0, run(of("poly 1 0 1;pair 0 9;"), "move 0 0 0;sweep;"));
        is(0, run(of("poly 1 0 1;pair 0 9;"), "move 1 0 1;sweep;"));
        is(2, run(of("poly 1 0 1;pair 0 9;"), "move 1 0 -1;sweep;"));
        is(0, run(of("poly 1 0 1;pair 0 9;"), "divide 1;sweep;"));
        RootDiscs c = of("poly 1 1 1 1;pair 0 9;at 0 0;");
        is(2, run(c, "divide 0 pair 1;start;"));
        isPolynomial(c, 1, 1);
        isPlaces(c, -32, 0);

        // At most 40 commands.
        RootDiscs d = new RootDiscs();
        is(40, run(d, "repeat 20(goal 3;goal 4;);goal 5;"));
        is(4, d.goal());
        is(39, run(d, "repeat 19(goal 3;goal 4;);goal 6;"));
        is(40, run(d, "repeat 7(repeat 2(move 0 1 0;move 0 2 0;goal 9;););"));
        // The 40th command is the first one of a round: 13 rounds of three were whole.
        isPlaces(d, 1, 0, -64, 0);
        is(40, run(d, "repeat 20(goal 3;goal 4;);goal 100;"));

        // An error leaves all but the buffer and the error as it was.
        RootDiscs e = new RootDiscs();
        e.setGoal(8);
        put(e, "goal 9;x");
        fails(ARGUMENT, () -> e.runScript());
        is(8, e.goal());
        is(0, e.undo());
        is(2, e.goal());
    }

    private static void scriptErrors() {
        promise = 5;
        scriptError("sweep", 1, 5);
        scriptError("sweep;;", 1, 6);
        scriptError("sweep 1;", 1, 6);
        scriptError("poly 1 1;", 1, 0);
        scriptError("at 1 1;", 1, 0);
        scriptError("sweeps;", 1, 0);
        scriptError("start 5;", 1, 6);
        scriptError("refine;", 1, 6);
        scriptError("refine -1;", 1, 7);
        scriptError("refine 10000;", 1, 7);
        scriptError("run -1;", 1, 4);
        scriptError("spread;", 1, 6);
        scriptError("goal x;", 1, 5);
        scriptError("move 1 1;", 1, 8);
        scriptError("move -1 1 1;", 1, 5);
        scriptError("move 1 1 1 1;", 1, 11);
        scriptError("divide;", 1, 6);
        scriptError("divide 1 1;", 1, 9);
        scriptError("divide 1 pair;", 1, 13);
        scriptError("divide 1 pair -1;", 1, 14);
        scriptError("divide 1 pairs 1;", 1, 9);
        scriptError("repeat (sweep;);", 1, 7);
        scriptError("repeat 2 sweep;", 1, 9);
        scriptError("repeat 2(sweep);", 1, 14);
        scriptError("repeat 2(sweep;)", 1, 16);
        scriptError("repeat 2(sweep;", 1, 15);
        scriptError("sweep;)", 1, 6);
        scriptError("repeat 2(sweep;));", 1, 16);
        scriptError("repeat -1(sweep;);", 1, 7);
        scriptError("repeat 0(sweep;);", 2, 7);
        scriptError("repeat 21(sweep;);", 2, 7);
        scriptError("goal 9;repeat 9999(", 2, 14);
        scriptError("repeat 1(repeat 1(repeat 0()));", 4, 18);
        scriptError("repeat 1(repeat 1(sweep; repeat", 4, 25);
        StringBuilder thirty = new StringBuilder("repeat 1(");
        for (int i = 0; i < 29; i++) {
            thirty.append("sweep;");
        }
        is(29, run(new RootDiscs(), thirty + ");"));
        int end = thirty.length();
        scriptError(thirty + "sweep;);", 6, end);
        scriptError(thirty + ");goal 100;", 6, end + 2);
        scriptError(thirty + "repeat 99();", 6, end);
        scriptError(thirty + "x;);", 1, end);
        StringBuilder within = new StringBuilder("repeat 1(repeat 1(");
        for (int i = 0; i < 28; i++) {
            within.append("sweep;");
        }
        is(28, run(new RootDiscs(), within + "););"));
        scriptError(within + "sweep;););", 6, within.length());
        scriptError(within + "repeat 1();););", 4, within.length());
        // Two "repeat" one behind the other are not within one another.
        RootDiscs d = new RootDiscs();
        is(2, run(d, "repeat 1(repeat 1(););repeat 1(repeat 1(goal 98;););goal 9;"));
        is(9, d.goal());
    }

    // ---- the polynomial: promises 8 to 16

    private static void polynomial() {
        RootDiscs d = of("poly 2 -3 0 1;at 10 -20;pair 0 32;");
        promise = 8;
        is(3, d.degree());
        promise = 9;
        isPolynomial(d, 2, -3, 0, 1);
        fails(INDEX, () -> d.coefficient(4));
        fails(INDEX, () -> d.coefficient(-1));
        fails(INDEX, () -> d.coefficient(MOST));
        fails(INDEX, () -> d.coefficient(LEAST));
        promise = 12;
        // Z * Z = -300 - 400i, Z * Z * Z = -11000 + 2000i; 2 * 32768 - 3 * 1024 * Z is 34816 + 61440i.
        is(23816, d.valueAt(10, -20, false));
        is(63440, d.valueAt(10, -20, true));
        is(65536, d.valueAt(0, 0, false));
        is(256L * 256 * 256 - 3 * 1024 * 256 + 65536, d.valueAt(256, 0, false));
        is(-(256L * 256 * 256) - 3 * 1024 * 256, d.valueAt(0, 256, true));
        fails(ARGUMENT, () -> d.valueAt(-257, 0, false));
        fails(ARGUMENT, () -> d.valueAt(0, 257, false));
        fails(ARGUMENT, () -> d.valueAt(LEAST, MOST, true));
        // 99 * (256 + 256i) to the 6th is -99 * 2 to the 51st * i.
        is(-99L << 51, of("poly 0 0 0 0 0 0 99;pair 1 1;pair 1 1;pair 1 1;").valueAt(256, 256, true));
        promise = 13;
        is(-3972, d.slopeAt(10, -20, false));
        is(-1200, d.slopeAt(10, -20, true));
        is(-3072, d.slopeAt(0, 0, false));
        is(-5, of("poly 3 -5;at 0 0;").slopeAt(256, -256, false));
        is(0, of("poly 3 -5;at 0 0;").slopeAt(256, -256, true));
        fails(ARGUMENT, () -> d.slopeAt(257, 0, false));
        fails(ARGUMENT, () -> d.slopeAt(0, -257, true));
        promise = 10;
        RootDiscs q = new RootDiscs();
        q.divide(2);
        is(1, q.degree());
        is(2, q.firstDegree());
        promise = 9;
        isPolynomial(q, 2, 1);
        fails(INDEX, () -> q.coefficient(2));
        promise = 11;
        is(-1, q.firstCoefficient(0));
        is(0, q.firstCoefficient(1));
        is(1, q.firstCoefficient(2));
        fails(INDEX, () -> q.firstCoefficient(3));
        fails(INDEX, () -> q.firstCoefficient(-1));

        promise = 14;
        RootDiscs e = of("poly 0 0 5 0 -64 1;at 0 0;at 0 0;at 0 0;at 0 0;at 0 0;");
        is(3, e.edges());
        promise = 15;
        isEdge(e, 0, 0, 2, 1);
        isEdge(e, 1, 2, 4, 8);
        isEdge(e, 2, 4, 5, 256);
        fails(INDEX, () -> e.edge(3, 0));
        fails(INDEX, () -> e.edge(-1, 3));
        fails(ARGUMENT, () -> e.edge(2, 3));
        fails(ARGUMENT, () -> e.edge(0, -1));
        RootDiscs flat = of("poly 1 1 1;at 0 0;at 0 0;");
        is(1, flat.edges());
        isEdge(flat, 0, 0, 2, 32);
        isEdge(of("poly 1 0 2;at 0 0;at 0 0;"), 0, 0, 2, 16);
        isEdge(of("poly 2 0 1;at 0 0;at 0 0;"), 0, 0, 2, 32);
        isEdge(of("poly 4 1;at 0 0;"), 0, 0, 1, 128);
        isEdge(of("poly -8 1;at 0 0;"), 0, 0, 1, 256);
        isEdge(of("poly 99 1;at 0 0;"), 0, 0, 1, 256);
        isEdge(of("poly 1 31;at 0 0;"), 0, 0, 1, 2);
        isEdge(of("poly 1 -63;at 0 0;"), 0, 0, 1, 1);
        isEdge(of("poly 1 99;at 0 0;"), 0, 0, 1, 1);
        RootDiscs zero = of("poly 0 0 7;at 0 0;at 0 0;");
        is(1, zero.edges());
        isEdge(zero, 0, 0, 2, 1);
        // The edges are those of what is left behind a division.
        isEdge(q, 0, 0, 1, 64);

        promise = 16;
        is(64, new RootDiscs().bound());
        is(43, of("poly 1 0 3;at 0 0;at 0 0;").bound());
        is(144, of("poly 7 -5 2;at 0 0;at 0 0;").bound());
        is(144, of("poly 5 -7 -2;at 0 0;at 0 0;").bound());
        is(32, of("poly 0 0 5;at 0 0;at 0 0;").bound());
        is(32 + 3168, of("poly 0 -99 1;at 0 0;at 0 0;").bound());
        is(96, q.bound());
    }

    private static void isEdge(RootDiscs d, int i, int from, int to, int length) {
        is(from, d.edge(i, 0));
        is(to, d.edge(i, 1));
        is(length, d.edge(i, 2));
    }

    // ---- points: promises 17 to 34

    private static void points() {
        promise = 17;
        RootDiscs d = of("poly 2 -3 0 1;at 10 -20;pair 0 32;");
        isPlaces(d, 10, -20, 0, 32, 0, -32);
        is(-1, d.point(0, 3));
        is(2, d.point(1, 3));
        is(1, d.point(2, 3));
        // (23816 + 63440) / (52 * 12) is 139.8.
        is(420, d.point(0, 2));
        is(0, d.point(2, 4));
        fails(INDEX, () -> d.point(3, 0));
        fails(INDEX, () -> d.point(-1, 7));
        fails(INDEX, () -> d.point(MOST, 0));
        fails(ARGUMENT, () -> d.point(0, 7));
        fails(ARGUMENT, () -> d.point(2, -1));
        fails(ARGUMENT, () -> d.point(2, MOST));
        RootDiscs two = of("poly 0 0 1;at 10 0;at 10 0;");
        is(-1, two.point(0, 2));
        is(0, two.point(1, 4));
        is(0, two.point(0, 5));
        is(0, two.point(0, 6));
        RootDiscs near = of("poly -1 0 1;at 33 0;at -32 0;");
        // (33 * 33 - 1024) / 65 is 1: the radius is 2, not greater than the goal.
        is(2, near.point(0, 2));
        is(1, near.point(0, 5));
        is(1, near.point(0, 6));
        near.setGoal(1);
        is(0, near.point(0, 5));
        is(1, near.point(1, 5));
        // 6 * 32768 / 59 is 3332.3, and 35 * 32768 / (43 * 8) is 3333.9: the radius 9999 is one, 10002 is none.
        is(9999, of("poly 6 0 0 59;at 0 0;at 1 0;at -1 0;").point(0, 2));
        is(-1, of("poly 35 0 0 43;at 0 0;at 2 0;at -4 0;").point(0, 2));
        is(3168, of("poly 99 1;at 0 0;").point(0, 2));
        RootDiscs far = of("poly 0 0 -99 1;at 250 0;at 249 0;at 0 0;");
        is(-1, far.point(0, 2));

        promise = 18;
        is(23816, d.value(0, false));
        is(63440, d.value(0, true));
        is(65536, d.value(1, false));
        // -3 * 1024 * 32i - 32768i
        is(-131072, d.value(1, true));
        fails(INDEX, () -> d.value(3, false));
        fails(INDEX, () -> d.value(-1, false));

        promise = 19;
        // (10 - 52i) * (10 + 12i)
        is(724, d.product(0, false));
        is(-400, d.product(0, true));
        RootDiscs minus = of("poly 2 -3 0 -2;at 10 -20;pair 0 32;");
        is(-1448, minus.product(0, false));
        is(800, minus.product(0, true));
        is(-7, of("poly 5 -7;at 3 3;").product(0, false));
        is(0, of("poly 5 -7;at 3 3;").product(0, true));
        is(0, two.product(0, false));
        fails(INDEX, () -> d.product(3, false));
        fails(INDEX, () -> d.product(LEAST, true));

        promise = 20;
        is(52 * 12, d.span(0));
        is(52 * 64, d.span(1));
        is(2 * 52 * 12, minus.span(0));
        is(7, of("poly 5 -7;at 3 3;").span(0));
        is(0, two.span(1));
        is(99L << 45, of("poly 0 0 0 0 0 0 -99;at 256 0;at -256 0;at -256 0;at -256 0;at -256 0;at -256 256;").span(0));
        fails(INDEX, () -> d.span(3));
        fails(INDEX, () -> d.span(-1));

        promise = 28;
        is(2, d.worst());
        is(0, new RootDiscs().worst());
        is(0, two.worst());
        is(1, of("poly 0 0 0 1;at 200 0;at 10 0;at 10 0;").worst());
        promise = 29;
        // |724| + |-400|, then 32 and -32: (-10 + 52i) * 64i and (-10 - 12i) * -64i.
        is(0, new RootDiscs().byProduct(0));
        is(1, new RootDiscs().byProduct(1));
        is(1, d.byProduct(0));
        is(2, d.byProduct(1));
        is(0, d.byProduct(2));
        is(-1, d.byProduct(3));
        is(-1, d.byProduct(-1));
        is(-1, d.byProduct(MOST));
        is(-1, d.byProduct(LEAST));
        promise = 30;
        is(2, d.goal());
        is(17, of("poly 1 1;at 0 0;goal 17;").goal());
        promise = 32;
        is(0, new RootDiscs().sumError());
        is(10, d.sumError());
        is(-2 * 10, minus.sumError());
        is(3 * 7 + 32 * -5, of("poly 1 -5 3;at 3 1;at 4 2;").sumError());
        is(-7 * 3 + 32 * 5, of("poly 5 -7;at 3 3;").sumError());
    }

    private static void steps() {
        promise = 21;
        is(24, new RootDiscs().step(0, false));
        is(-24, new RootDiscs().step(1, false));
        // V = -46 + 15i, P = 5: towards 0.
        RootDiscs d = of("poly -3 5;at 10 3;");
        is(-9, d.step(0, false));
        is(3, d.step(0, true));
        RootDiscs mirrored = of("poly 3 5;at -10 -3;");
        is(9, mirrored.step(0, false));
        is(-3, mirrored.step(0, true));
        is(64, of("poly 99 1;at 256 0;").step(0, false));
        is(-64, of("poly -99 1;at 256 0;").step(0, false));
        is(-64, of("poly 0 1;at 0 -256;").step(0, true));
        is(0, of("poly 0 0 1;at 10 0;at 10 0;").step(0, false));
        is(0, of("poly 0 0 1;at 10 0;at 10 0;").step(0, true));
        // V = 23816 + 63440i, P = 724 - 400i: (-8133216, 55456960) / 684176.
        RootDiscs c = of("poly 2 -3 0 1;at 10 -20;pair 0 32;");
        is(-11, c.step(0, false));
        is(64, c.step(0, true));
        // V = 34337 and P = 17169 become 17168 and 8584.
        is(2, of("poly 33 14 97;at 1 0;at -176 0;").step(0, false));
        // Both parts of V are limited, so V is (1 - i) times a number, and P is 1 + i.
        RootDiscs large = of("poly 0 0 0 0 0 -1 1;at 256 256;at 255 256;at 255 256;at 255 256;at 255 256;at 255 255;");
        is(1, large.product(0, false));
        is(1, large.product(0, true));
        is(0, large.step(0, false));
        is(-64, large.step(0, true));
        fails(INDEX, () -> d.step(1, false));
        fails(INDEX, () -> d.step(-1, true));
        fails(INDEX, () -> d.step(MOST, true));
    }

    private static void discs() {
        RootDiscs fresh = new RootDiscs();
        // The radii are 33, 9 and 51: point 2 touches both others, which do not touch.
        RootDiscs chain = of("poly -3 -1 3 1;at -83 0;at 34 0;at -18 0;");
        RootDiscs equal = of("poly 0 0 1;at 10 0;at -10 0;");
        RootDiscs none = of("poly 0 0 0 1;at 10 0;at 10 0;at 256 0;");
        promise = 17;
        is(33, chain.point(0, 2));
        is(9, chain.point(1, 2));
        is(51, chain.point(2, 2));
        promise = 22;
        is(true, chain.touch(0, 2));
        is(true, chain.touch(1, 2));
        is(false, chain.touch(0, 1));
        is(false, chain.touch(1, 0));
        is(true, chain.touch(1, 1));
        is(false, fresh.touch(0, 1));
        // Both radii are 10, and the points 20 apart.
        is(true, equal.touch(0, 1));
        is(true, none.touch(2, 0));
        is(true, none.touch(0, 2));
        fails(INDEX, () -> chain.touch(3, 0));
        fails(INDEX, () -> chain.touch(0, 3));
        fails(INDEX, () -> chain.touch(-1, -1));
        fails(INDEX, () -> chain.touch(7, 7));
        promise = 23;
        is(7, chain.cluster(0));
        is(7, chain.cluster(1));
        is(1, fresh.cluster(0));
        is(2, fresh.cluster(1));
        is(3, equal.cluster(1));
        is(7, none.cluster(2));
        fails(INDEX, () -> chain.cluster(3));
        fails(INDEX, () -> chain.cluster(-1));
        promise = 24;
        is(1, chain.clusters());
        is(2, fresh.clusters());
        is(1, none.clusters());
        RootDiscs three = of("poly -6 11 -6 1;at 30 0;at 66 0;at 96 0;");
        is(3, three.clusters());
        promise = 25;
        // The radii are 6, 6 and 0.
        is(4, three.settled());
        three.setGoal(6);
        is(7, three.settled());
        three.setGoal(5);
        is(4, three.settled());
        is(0, chain.settled());
        chain.setGoal(99);
        is(0, chain.settled());
        is(3, of("poly 1 0 1;pair 0 33;").settled());
        promise = 26;
        is(7, three.real());
        is(0, chain.real());
        is(3, fresh.real());
        is(0, of("poly 1 0 1;pair 0 33;").real());
        is(0, of("poly 1 0 1;at 0 33;at 0 -33;").real());
        is(1, of("poly 0 1;at 0 5;").real());
        is(1, of("poly 0 1;at 0 -5;").real());
        // The radii are 50 and 24; the mirrored discs just touch, 74 apart, the discs do not.
        RootDiscs mirrored = of("poly -2 1 1;at -45 6;at 29 -6;");
        is(2, mirrored.clusters());
        is(50, mirrored.point(0, 2));
        is(24, mirrored.point(1, 2));
        is(0, mirrored.real());
        is(0, of("poly 99 -99 1;at 0 0;at 0 0;").real());
        is(0, of("poly 0 0 1;at 9 0;at 9 0;").real());
        promise = 27;
        is(1, fresh.holding(16, 0));
        is(0, fresh.holding(15, 0));
        is(1, fresh.holding(64, -48));
        is(0, fresh.holding(65, -48));
        is(1, fresh.holding(112, 0));
        is(2, fresh.holding(-64, 48));
        is(3, equal.holding(0, 0));
        // Only the third point has a radius: 3 * 278.
        is(4, none.holding(10, 0));
        is(0, fresh.holding(MOST, LEAST));
        is(0, fresh.holding(LEAST, LEAST));
        is(0, fresh.holding(64, MOST));
        is(0, fresh.holding(MOST, 0));
        bounds(fresh, chain, none);
    }

    private static void bounds(RootDiscs fresh, RootDiscs chain, RootDiscs none) {
        promise = 31;
        is(1, fresh.rootsIn(16, -48, 112, 48, false));
        is(0, fresh.rootsIn(17, -48, 112, 48, false));
        is(0, fresh.rootsIn(16, -47, 112, 48, false));
        is(0, fresh.rootsIn(16, -48, 111, 48, false));
        is(0, fresh.rootsIn(16, -48, 112, 47, false));
        is(2, fresh.rootsIn(-112, -48, 112, 48, false));
        is(1, fresh.rootsIn(112, 48, 112, 48, true));
        is(0, fresh.rootsIn(113, 0, 200, 0, true));
        is(0, fresh.rootsIn(64, 49, 64, 49, true));
        is(0, fresh.rootsIn(-15, -99, 15, 99, true));
        is(2, fresh.rootsIn(-16, 0, 16, 0, true));
        is(1, fresh.rootsIn(-9999, -9999, -112, -48, true));
        // The discs are -116 to -50, 25 to 43 and -69 to 33.
        is(3, chain.rootsIn(-116, -51, 43, 51, false));
        is(0, chain.rootsIn(-115, -51, 43, 51, false));
        is(3, chain.rootsIn(40, 0, 50, 0, true));
        is(0, chain.rootsIn(44, 0, 50, 0, true));
        is(0, none.rootsIn(-9999, -9999, 9999, 9999, false));
        is(3, none.rootsIn(9999, 9999, 9999, 9999, true));
        fails(ARGUMENT, () -> fresh.rootsIn(-10000, 0, 0, 0, false));
        fails(ARGUMENT, () -> fresh.rootsIn(0, -10000, 0, 0, false));
        fails(ARGUMENT, () -> fresh.rootsIn(0, 0, 10000, 0, true));
        fails(ARGUMENT, () -> fresh.rootsIn(0, 0, 0, 10000, true));
        fails(ARGUMENT, () -> fresh.rootsIn(1, 0, 0, 0, true));
        fails(ARGUMENT, () -> fresh.rootsIn(0, 1, 0, 0, false));
        fails(ARGUMENT, () -> fresh.rootsIn(LEAST, LEAST, MOST, MOST, false));
    }

    private static void visits() {
        promise = 33;
        RootDiscs d = new RootDiscs();
        is(0, d.visits(0, 0));
        is(0, d.visits(MOST, LEAST));
        // No place, though it would be (64, 0) if places were numbered carelessly.
        is(0, d.visits(63, 1024));
        is(0, d.visits(65, -1024));
        d.move(0, 64, 0);
        is(1, d.visits(64, 0));
        d.move(0, 5, 6);
        d.move(0, 64, 0);
        is(2, d.visits(64, 0));
        is(2, d.undo());
        is(1, d.visits(64, 0));
        RootDiscs e = new RootDiscs();
        e.sweep();
        is(1, e.visits(40, 0));
        is(1, e.visits(-35, 0));
        e.sweep();
        is(1, e.visits(33, 0));
        is(1, e.visits(-33, 0));
        e.sweep();
        is(1, e.visits(33, 0));
        promise = 34;
        is(6, e.places());
        is(2, of("poly 0 0 1;pair 0 1;").places());
        is(1, of("poly 0 0 1;at 3 1;at 3 1;").places());
        // Where a pair ends, only the ends are visited, the first point's first.
        RootDiscs f = of("poly -1 0 1;pair 0 1;");
        f.refine(0);
        isPlaces(f, -1, 0, 1, 0);
        is(4, f.places());
        is(0, f.visits(0, 0));

        promise = 33;
        // 198 more visits leave room for both first ones, the 199th takes the place of the first one.
        RootDiscs g = new RootDiscs();
        for (int i = 0; i < 4; i++) {
            is(40, run(g, "repeat 20(move 0 1 0;move 0 2 0;);"));
        }
        is(38, run(g, "repeat 19(move 0 1 0;move 0 2 0;);"));
        is(1, g.visits(64, 0));
        is(99, g.visits(2, 0));
        is(4, g.places());
        g.move(0, 1, 0);
        is(0, g.visits(64, 0));
        is(1, g.visits(-64, 0));
        is(3, g.places());
        g.move(0, 2, 0);
        is(0, g.visits(-64, 0));
        is(100, g.visits(1, 0));
        is(100, g.visits(2, 0));
        is(2, g.places());
        g.spread(7);
        is(99, g.visits(1, 0));
        is(99, g.visits(2, 0));
        is(1, g.visits(0, 7));
        is(1, g.visits(0, -7));
    }

    // ---- factors, debts: promises 35 to 40

    private static void factors() {
        promise = 35;
        RootDiscs d = new RootDiscs();
        is(0, d.whyNotDivide(8));
        is(0, d.whyNotDivide(-8));
        fails(ARGUMENT, () -> d.whyNotDivide(9));
        fails(ARGUMENT, () -> d.whyNotDivide(-9));
        fails(ARGUMENT, () -> d.whyNotDivide(LEAST));
        is(1, of("poly 0 1;at 0 0;").whyNotDivide(0));
        is(2, of("poly 1 0 1;pair 0 9;").whyNotDivide(0));
        RootDiscs six = of("poly 1 2 3 4 5 6 99;pair 0 9;pair 0 9;pair 0 9;");
        is(2, six.whyNotDivide(8));
        six.part(0);
        is(3, six.whyNotDivide(8));
        is(3, six.whyNotDivide(-8));
        is(0, six.whyNotDivide(0));
        // The quotient by X - 5 is 2 and 10 + 5 * 2; only the remainder is large: 99 + 5 * 20.
        is(0, of("poly 99 10 2;at 0 0;at 0 0;").whyNotDivide(5));
        // 19 * 8 * 8 * 8 is 9728; with 33 * 8 and 7 it is 9999, with 33 * 8 and 8 above that.
        is(0, of("poly 0 7 33 0 19;at 0 0;at 0 0;at 0 0;at 0 0;").whyNotDivide(8));
        is(3, of("poly 0 8 33 0 19;at 0 0;at 0 0;at 0 0;at 0 0;").whyNotDivide(8));
        is(3, of("poly 0 -8 -33 0 -19;at 0 0;at 0 0;at 0 0;at 0 0;").whyNotDivide(8));
        is(0, of("poly 0 -7 -33 0 -19;at 0 0;at 0 0;at 0 0;at 0 0;").whyNotDivide(8));
        promise = 36;
        is(1, d.whyNotDividePair(0, 1));
        fails(ARGUMENT, () -> d.whyNotDividePair(9, 1));
        fails(ARGUMENT, () -> d.whyNotDividePair(-9, 1));
        fails(ARGUMENT, () -> d.whyNotDividePair(0, 0));
        fails(ARGUMENT, () -> d.whyNotDividePair(0, 9));
        fails(ARGUMENT, () -> d.whyNotDividePair(0, -1));
        is(2, of("poly 0 0 0 1;at 0 1;at 0 -1;at 0 0;").whyNotDividePair(-8, 8));
        is(0, of("poly 0 0 0 1;at 0 0;pair 0 1;").whyNotDividePair(-8, 8));
        // The quotient by X * X - 16 * X + 128: 99, 16 * 99 = 1584, 16 * 1584 - 128 * 99 = 12672.
        is(3, of("poly 0 0 0 0 99;pair 0 1;at 0 0;at 0 0;").whyNotDividePair(8, 8));
        is(0, of("poly 0 0 0 99;pair 0 1;at 0 0;").whyNotDividePair(8, 8));

        promise = 37;
        RootDiscs e = of("poly 7 3 -5 0 2;pair 30 20;at 0 0;at 5 0;");
        is(0, e.debts());
        // 2, 0 + 2 * 2, -5 + 2 * 4, 3 + 2 * 3, and 7 + 2 * 9.
        is(25, e.divide(2));
        is(1, e.debts());
        // By X * X - 2 * X + 2: 2, 4 + 2 * 2 = 8; r1 = 3 + 2 * 8 - 2 * 2 = 15, r0 = 9 - 2 * 8 = -7.
        isPolynomial(e, 9, 3, 4, 2);
        is(22, e.dividePair(1, 1));
        isPolynomial(e, 8, 2);
        is(2, e.debts());
        promise = 38;
        isDebt(e, 0, 2, 0, 0, 25);
        isDebt(e, 1, 1, 1, 15, -7);
        is(25, e.debt(0, 4));
        is(22, e.debt(1, 4));
        fails(INDEX, () -> e.debt(2, 0));
        fails(INDEX, () -> e.debt(-1, 5));
        fails(ARGUMENT, () -> e.debt(1, 5));
        fails(ARGUMENT, () -> e.debt(0, -1));
        promise = 39;
        for (int k = 0; k <= 4; k++) {
            is(e.firstCoefficient(k), e.recombined(k));
        }
        is(7, e.recombined(0));
        is(-5, e.recombined(2));
        fails(INDEX, () -> e.recombined(5));
        fails(INDEX, () -> e.recombined(-1));
        is(-1, d.recombined(0));
        promise = 40;
        isText("0.0", "" + d.debtShare());
        isText("" + 47f / 17f, "" + e.debtShare());
        e.undo();
        isText("" + 25f / 17f, "" + e.debtShare());
    }

    private static void isDebt(RootDiscs d, int k, int a, int b, int r1, int r0) {
        is(a, d.debt(k, 0));
        is(b, d.debt(k, 1));
        is(r1, d.debt(k, 2));
        is(r0, d.debt(k, 3));
    }

    // ---- what would be: promises 41 and 42

    private static void foreseen() {
        promise = 41;
        RootDiscs d = new RootDiscs();
        is(2, d.sweepsToSettle(200));
        is(2, d.sweepsToSettle(2));
        is(-1, d.sweepsToSettle(1));
        is(-1, d.sweepsToSettle(0));
        fails(ARGUMENT, () -> d.sweepsToSettle(201));
        fails(ARGUMENT, () -> d.sweepsToSettle(-1));
        is(0, of("poly -1 0 1;at 32 0;at -32 0;").sweepsToSettle(0));
        is(-1, of("poly 0 0 1;at 10 0;at 10 0;").sweepsToSettle(200));
        isNew(d);
        promise = 42;
        // The radii behind a sweep are 16 and 6.
        isText("11.0", "" + d.meanRadiusBehind());
        isText("9999.0", "" + of("poly 0 0 1;at 10 0;at 10 0;").meanRadiusBehind());
        RootDiscs third = of("poly -6 11 -6 1;at 30 0;at 66 0;at 96 0;");
        double mean = third.meanRadiusBehind();
        third.sweep();
        int sum = third.point(0, 2) + third.point(1, 2) + third.point(2, 2);
        isText("" + sum / 3.0, "" + mean);
        isNew(d);
    }

    // ---- changes: promises 43 to 53

    private static void refining() {
        promise = 43;
        RootDiscs d = new RootDiscs();
        is(1, d.refine(0));
        isPlaces(d, 40, 0, -64, 0);
        fails(INDEX, () -> d.refine(2));
        fails(INDEX, () -> d.refine(-1));
        is(0, d.undo());
        is(0, of("poly -1 0 1;at 32 0;at -32 0;").refine(1));
        // V = 1024 - 1600, P = 80i: the step is (0, 7), by either of both points.
        RootDiscs p = of("poly 1 0 1;pair 0 40;");
        is(2, p.refine(1));
        isPlaces(p, 0, 33, 0, -33);
        is(1, p.point(0, 3));
        is(2, of("poly 1 0 1;pair 0 40;").refine(0));
        // V = 1020 + 256i, P = 4i: the step is (64, -64).
        RootDiscs q = of("poly 1 4 1;pair 0 2;");
        is(2, q.refine(0));
        isPlaces(q, -64, 66, -64, -66);
        // V = -1025, P = 2i: the first point would go to (0, -63), so the pair ends.
        RootDiscs end = of("poly -1 0 1;pair 0 1;");
        is(2, end.refine(1));
        isPlaces(end, -1, 0, 1, 0);
        is(-1, end.point(0, 3));
        is(-1, end.point(1, 3));
        is(0, end.undo());
        isPlaces(end, 0, 1, 0, -1);
        is(1, end.point(0, 3));
        // At the border both ends are limited again; the steps are (0, 64).
        RootDiscs border = of("poly 0 16 1;pair -256 1;");
        is(2, border.refine(0));
        isPlaces(border, -256, 0, -255, 0);
        RootDiscs right = of("poly 0 -16 1;pair 256 1;");
        is(2, right.refine(1));
        isPlaces(right, 255, 0, 256, 0);
        // No place is farther than 256: the step is -64.
        RootDiscs out = of("poly -99 1;at 250 0;");
        is(1, out.refine(0));
        isPlaces(out, 256, 0);
        is(0, out.refine(0));

        promise = 44;
        RootDiscs s = new RootDiscs();
        is(2, s.sweep());
        // The second point is refined with the first one where it is by then.
        isPlaces(s, 40, 0, -35, 0);
        is(2, s.sweep());
        is(0, s.sweep());
        isPlaces(s, 33, 0, -33, 0);
        // A pair once, also if it ends by that: refined again, the points would move on.
        RootDiscs e = of("poly -1 0 1;pair 0 1;");
        is(2, e.sweep());
        isPlaces(e, -1, 0, 1, 0);
        is(1, e.visits(1, 0));
        RootDiscs mixed = of("poly 1 1 1 1;pair 0 40;at -40 0;");
        is(3, mixed.sweep());
        is(mixed.point(0, 0), mixed.point(1, 0));
        is(mixed.point(0, 1), -mixed.point(1, 1));

        promise = 45;
        RootDiscs r = new RootDiscs();
        is(2, r.run(50));
        isPlaces(r, 33, 0, -33, 0);
        is(0, r.run(50));
        r.setGoal(1);
        // Nothing moves, but the radius 2 is above the goal: the sweep that moved nothing counts.
        is(1, r.run(50));
        is(1, new RootDiscs().run(1));
        fails(ARGUMENT, () -> r.run(0));
        fails(ARGUMENT, () -> r.run(51));
        fails(ARGUMENT, () -> r.run(-1));
        is(3, r.undo());
        RootDiscs t = new RootDiscs();
        t.run(1);
        isPlaces(t, 40, 0, -35, 0);
        is(0, t.undo());
        isPlaces(t, 64, 0, -64, 0);
    }

    private static void laying() {
        promise = 46;
        RootDiscs d = of("poly 1 0 0 0 0 1;at 1 0;at 2 0;at 3 0;pair 9 9;");
        is(5, d.spread(10));
        // 2 * 10 * 1 / 3 - 10 and 2 * 10 * 2 / 3 - 10, rounded down, and the last one alone.
        isPlaces(d, -4, 10, -4, -10, 3, 10, 3, -10, -10, 0);
        is(1, d.point(0, 3));
        is(3, d.point(2, 3));
        is(-1, d.point(4, 3));
        is(0, d.spread(10));
        is(1, d.visits(3, -10));
        is(1, d.undo());
        is(0, d.undo());
        isPlaces(d, 1, 0, 2, 0, 3, 0, 9, 9, 9, -9);
        is(4, d.point(3, 3));
        RootDiscs one = of("poly 5 1;at 0 0;");
        is(1, one.spread(256));
        isPlaces(one, -256, 0);
        is(1, one.spread(1));
        isPlaces(one, -1, 0);
        RootDiscs six = of("poly 1 0 0 0 0 0 1;pair 1 1;pair 1 1;pair 1 1;");
        is(6, six.spread(256));
        isPlaces(six, -128, 256, -128, -256, 0, 256, 0, -256, 128, 256, 128, -256);
        fails(ARGUMENT, () -> six.spread(0));
        fails(ARGUMENT, () -> six.spread(257));
        fails(ARGUMENT, () -> six.spread(LEAST));

        promise = 47;
        RootDiscs e = of("poly 0 0 5 0 -64 1;at 1 0;pair 0 8;at 0 0;at 0 0;");
        // Lengths 1, 8 and 256, for 2, 2 and 1 points; the pair of points 1 and 2 is no more.
        is(5, e.start());
        isPlaces(e, 0, 1, 0, -1, 0, 8, 0, -8, -256, 0);
        is(0, e.point(1, 3));
        is(3, e.point(2, 3));
        is(-1, e.point(4, 3));
        is(1, e.visits(0, -1));
        is(0, e.start());
        RootDiscs odd = of("poly 1 1 1 1;at 0 0;at 0 0;at -32 0;");
        is(2, odd.start());
        isPlaces(odd, 0, 32, 0, -32, -32, 0);
        is(0, odd.undo());
        isPlaces(odd, 0, 0, 0, 0, -32, 0);
    }

    private static void hands() {
        promise = 48;
        RootDiscs d = of("poly 1 1 1 1;pair 5 6;at 7 8;");
        is(1, d.move(2, -256, 256));
        is(2, d.move(0, 10, 1));
        isPlaces(d, 10, 1, 10, -1, -256, 256);
        is(2, d.move(1, -3, -256));
        isPlaces(d, -3, 256, -3, -256, -256, 256);
        is(0, d.move(1, -3, -256));
        is(1, d.visits(-3, 256));
        is(1, d.visits(-3, -256));
        fails(STATE, () -> d.move(0, 0, 0));
        fails(STATE, () -> d.move(0, 0, -5));
        fails(STATE, () -> d.move(1, 0, 0));
        fails(STATE, () -> d.move(1, 0, 1));
        fails(ARGUMENT, () -> d.move(0, 257, 0));
        fails(ARGUMENT, () -> d.move(2, 0, -257));
        fails(ARGUMENT, () -> d.move(1, MOST, LEAST));
        fails(INDEX, () -> d.move(3, 999, 0));
        fails(INDEX, () -> d.move(-1, 0, 0));
        is(1, d.move(2, 0, 0));
        is(1, d.move(2, 0, -256));
        is(5, d.undo());
        isPlaces(d, -3, 256, -3, -256, 0, 0);

        promise = 49;
        RootDiscs j = of("poly 1 0 0 0 1;at 5 6;at 7 8;at 0 0;at 1 -1;");
        is(-6, j.join(0));
        isPlaces(j, 5, 6, 5, -6, 0, 0, 1, -1);
        is(1, j.point(0, 3));
        is(0, j.point(1, 3));
        is(1, j.visits(5, -6));
        fails(STATE, () -> j.join(0));
        fails(STATE, () -> j.join(1));
        fails(STATE, () -> j.join(2));
        fails(STATE, () -> j.join(3));
        fails(INDEX, () -> j.join(4));
        fails(INDEX, () -> j.join(-1));
        fails(INDEX, () -> j.join(MOST));
        is(0, j.undo());
        is(-1, j.point(0, 3));
        isPlaces(j, 5, 6, 7, 8, 0, 0, 1, -1);
        is(-8, j.join(1));
        // The next one is in a pair, but the point is not.
        fails(STATE, () -> j.join(0));
        RootDiscs k = of("poly 1 0 1;at 0 1;at 0 -1;");
        is(-1, k.join(0));
        is(1, k.visits(0, -1));
        fails(STATE, () -> of("poly 1 0 1;at 0 -1;at 0 1;").join(0));

        promise = 50;
        is(1, j.part(1));
        is(-1, j.point(1, 3));
        is(-1, j.point(2, 3));
        isPlaces(j, 5, 6, 7, 8, 7, -8, 1, -1);
        is(5, j.places());
        fails(STATE, () -> j.part(1));
        fails(INDEX, () -> j.part(4));
        fails(INDEX, () -> j.part(-1));
        is(1, j.undo());
        is(1, j.part(2));
        RootDiscs free = of("poly 1 0 1;pair 0 1;");
        is(0, free.part(1));
        is(1, free.move(0, 0, -9));

        promise = 53;
        is(2, free.setGoal(99));
        is(99, free.setGoal(1));
        is(1, free.goal());
        fails(ARGUMENT, () -> free.setGoal(0));
        fails(ARGUMENT, () -> free.setGoal(100));
        is(1, free.goal());
        is(3, free.undo());
        is(99, free.goal());
    }

    private static void dividing() {
        promise = 51;
        RootDiscs d = of("poly -6 11 -6 1;at 64 5;at 0 3;at 64 -5;");
        is(0, d.divide(2));
        isPolynomial(d, 3, -4, 1);
        // The lowest one of the two nearest ones goes.
        isPlaces(d, 0, 3, 64, -5);
        is(3, d.places());
        is(8, d.divide(-1));
        isPolynomial(d, -5, 1);
        isPlaces(d, 64, -5);
        is(2, d.debts());
        fails(STATE, () -> d.divide(0));
        fails(ARGUMENT, () -> d.divide(9));
        fails(ARGUMENT, () -> d.divide(-9));
        is(1, d.undo());
        isPolynomial(d, 3, -4, 1);
        isPlaces(d, 0, 3, 64, -5);
        is(1, d.debts());
        fails(STATE, () -> of("poly 1 0 1;pair 0 1;").divide(1));
        RootDiscs six = of("poly 1 2 3 4 5 6 99;at 0 0;at 0 0;at 0 0;at 0 0;at 0 0;at 0 0;");
        fails(STATE, () -> six.divide(8));
        is(-1, six.undo());
        // Only points without a pair count, though the pair is nearer; the pair keeps together.
        RootDiscs e = of("poly 0 0 0 0 1;at 200 0;pair 32 1;at -200 0;");
        is(1, e.divide(1));
        isPlaces(e, 32, 1, 32, -1, -200, 0);
        is(1, e.point(0, 3));
        is(-1, e.point(2, 3));
        for (int a = 0; a < 5; a++) {
            six.divide(0);
        }
        is(5, six.debts());
        is(1, six.degree());
        isPolynomial(six, 6, 99);
        is(5, six.debt(4, 3));

        promise = 52;
        RootDiscs p = of("poly 2 0 3 0 1;pair 0 30;pair 0 34;");
        // X * X * X * X + 3 * X * X + 2 is (X * X + 1) * (X * X + 2); both pairs are 2 away.
        is(0, p.dividePair(0, 1));
        isPolynomial(p, 2, 0, 1);
        isPlaces(p, 0, 34, 0, -34);
        is(1, p.point(0, 3));
        fails(STATE, () -> p.dividePair(0, 1));
        fails(ARGUMENT, () -> p.dividePair(0, 0));
        fails(ARGUMENT, () -> p.dividePair(0, 9));
        fails(ARGUMENT, () -> p.dividePair(9, 1));
        is(0, p.undo());
        isPlaces(p, 0, 30, 0, -30, 0, 34, 0, -34);
        // The nearest to (-32, 64) is the second pair.
        // By X * X + 2 * X + 5: 1, -2, 2; r1 = -4 + 10, r0 = 2 - 10.
        is(14, p.dividePair(-1, 2));
        isPolynomial(p, 2, -2, 1);
        isPlaces(p, 0, 30, 0, -30);
        fails(STATE, () -> of("poly 0 0 0 1;at 0 1;at 0 -1;at 0 0;").dividePair(0, 1));
    }

    // ---- reports, undo, a saved state: promises 54 to 58

    private static void reports() {
        promise = 54;
        RootDiscs d = new RootDiscs();
        is(19, d.report());
        isText("64 0 48r\n-64 0 48r\n", reported(d));
        isText("0 33 2p\n0 -33 2p\n", reported(of("poly 1 0 1;pair 0 33;")));
        isText("10 0 ?\n10 0 ?\n", reported(of("poly 0 0 1;at 10 0;at 10 0;")));
        isText("-256 100 ?\n-256 100 ?\n", reported(of("poly 0 0 1;at -256 100;at -256 100;")));
        isText("10 -20 420\n0 32 180p\n0 -32 768p\n", reported(of("poly 2 -3 0 1;at 10 -20;pair 0 32;")));
        isText("0 0 3168r\n", reported(of("poly 99 1;at 0 0;")));
        isText("0 0 0r\n", reported(of("poly 0 1;at 0 0;")));
        promise = 55;
        is('6', d.reportByte(0));
        is(' ', d.reportByte(2));
        is('r', d.reportByte(7));
        is('\n', d.reportByte(18));
        fails(INDEX, () -> d.reportByte(19));
        fails(INDEX, () -> d.reportByte(-1));
        fails(INDEX, () -> d.reportByte(MOST));
        // It stays until the next one, whatever comes.
        d.sweep();
        d.undo();
        d.save();
        d.restore();
        put(d, "poly 0 1;at 0 0;").readText();
        isText("64 0 48r\n-64 0 48r\n", kept(d, 19));
        is(7, d.report());
        fails(INDEX, () -> d.reportByte(7));
        is('r', d.reportByte(5));
        fails(INDEX, () -> new RootDiscs().reportByte(0));
    }

    private static void undoing() {
        promise = 56;
        RootDiscs d = new RootDiscs();
        is(-1, d.undo());
        for (int i = 3; i <= 10; i++) {
            d.setGoal(i);
        }
        // Six of the eight are kept.
        for (int i = 9; i >= 4; i--) {
            is(i - 4, d.undo());
            is(i, d.goal());
        }
        is(-1, d.undo());
        is(4, d.goal());
        // Each kind of change, also one that changes nothing, can be undone; what throws cannot.
        RootDiscs e = of("poly -6 11 -6 1;at 30 5;at 66 0;at 96 0;");
        e.refine(2);
        e.move(2, 96, 0);
        e.run(1);
        e.spread(9);
        e.part(0);
        e.start();
        is(5, e.undo());
        isPlaces(e, 0, 9, 0, -9, -9, 0);
        is(-1, e.point(0, 3));
        is(4, e.undo());
        is(1, e.point(0, 3));
        is(3, e.undo());
        is(2, e.undo());
        isPlaces(e, 30, 5, 66, 0, 96, 0);
        e.join(0);
        e.divide(3);
        is(3, e.undo());
        is(0, e.debts());
        is(3, e.degree());
        is(2, e.undo());
        fails(ARGUMENT, () -> e.setGoal(0));
        fails(INDEX, () -> e.refine(5));
        fails(STATE, () -> e.join(2));
        is(1, e.undo());
        is(0, e.undo());
        is(-1, e.undo());
        // The visits, too, are as before; the buffer, the error, the report and what is saved are not.
        RootDiscs f = new RootDiscs();
        f.save();
        f.sweep();
        f.save();
        put(f, "x");
        fails(ARGUMENT, () -> f.runScript());
        f.feed(1, 2, 3, 4, 5);
        f.report();
        is(0, f.undo());
        is(2, f.places());
        is(0, f.visits(40, 0));
        is(1, f.errorCode());
        is(20, f.truncate(20));
        is('4', f.reportByte(0));
        f.restore();
        isPlaces(f, 40, 0, -35, 0);
        // A script is one call; reading a text and restoring forget what can be undone.
        RootDiscs g = new RootDiscs();
        is(3, run(g, "sweep;sweep;goal 9;"));
        is(0, g.undo());
        isNew(g);
        g.sweep();
        put(g, "poly 0 1;at 0 0;").readText();
        is(-1, g.undo());
        g.save();
        g.sweep();
        g.restore();
        is(-1, g.undo());
        // More than six, again: the ring goes round.
        for (int i = 1; i <= 9; i++) {
            g.setGoal(i);
        }
        is(5, g.undo());
        g.setGoal(50);
        g.setGoal(51);
        is(5, g.undo());
        is(50, g.goal());
        is(4, g.undo());
        is(8, g.goal());
    }

    private static void saving() {
        promise = 58;
        RootDiscs d = new RootDiscs();
        fails(STATE, () -> d.restore());
        promise = 57;
        d.divide(1);
        d.setGoal(9);
        d.move(0, 3, 4);
        is(1, d.save());
        put(d, "poly 2 -3 0 1;at 10 -20;pair 0 32;").readText();
        promise = 58;
        is(1, d.restore());
        isPolynomial(d, 1, 1);
        is(2, d.firstDegree());
        is(1, d.debts());
        is(9, d.goal());
        isPlaces(d, 3, 4);
        is(3, d.places());
        is(1, d.visits(64, 0));
        is(-1, d.undo());
        // What was saved stays, whatever is done to what was restored.
        d.move(0, 5, 5);
        is(1, d.restore());
        isPlaces(d, 3, 4);
        is(0, d.visits(5, 5));
        promise = 57;
        put(d, "poly 2 -3 0 1;at 10 -20;pair 0 32;").readText();
        is(3, d.save());
        d.part(1);
        is(0, d.undo());
        d.part(1);
        is(3, d.restore());
        is(2, d.point(1, 3));
        // Saving can not be undone, and forgets nothing.
        d.setGoal(3);
        is(3, d.save());
        is(0, d.undo());
        is(2, d.goal());
        d.restore();
        is(3, d.goal());
    }
}
