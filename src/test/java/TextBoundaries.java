/** Boundary cases of the buffer, the texts and the scripts: sections 5 and 7, promises 1 to 7. */
final class TextBoundaries extends Checks {
    private TextBoundaries() {
    }

    private static final String ONE = "poly 1 1;at 0 0;";

    private static String repeated(String text, int times) {
        StringBuilder s = new StringBuilder();
        for (int i = 0; i < times; i++) {
            s.append(text);
        }
        return s.toString();
    }

    /** The text is read without an error. */
    private static void reads(String text, int degree) {
        RootDiscs d = put(new RootDiscs(), text);
        is(degree, d.readText());
        is(0, d.errorCode());
        is(NONE, d.errorPosition());
        isLength(0, d);
    }

    /** The script is read without an error, and so many commands are done. */
    private static void does(int done, String script) {
        RootDiscs d = put(new RootDiscs(), script);
        is(done, d.runScript());
        is(0, d.errorCode());
        is(NONE, d.errorPosition());
        isLength(0, d);
    }

    /** With another letter at one place. */
    private static String other(String word, int at) {
        return word.substring(0, at) + (word.charAt(at) == 'z' ? 'a' : 'z') + word.substring(at + 1);
    }

    // ---- a new object, the buffer: promises 1 to 3

    static void newObject() {
        about(1, "Creates a state as if the text \"poly -1 0 1;at 64 0;at -64 0;\" was read, with an empty buffer.");
        RootDiscs d = new RootDiscs();
        RootDiscs told = of("poly -1 0 1;at 64 0;at -64 0;");
        isText(state(told), state(d));
        isText(aside(told), aside(d));
        is(told.undo(), d.undo());
        isLength(0, d);
        isNew(new RootDiscs());
        fails(STATE, () -> new RootDiscs().restore());
        fails(INDEX, () -> new RootDiscs().reportByte(0));
        // Objects have nothing in common.
        RootDiscs other = new RootDiscs();
        other.divide(1);
        other.feed(1, 2, 3, 4, 5);
        other.report();
        other.save();
        isNew(d);
        isLength(0, d);
        about(1, "`NONE = -1`: There is no such value.");
        is(-1, RootDiscs.NONE);
    }

    static void feedUpTo400() {
        about(2, "Throws `IllegalStateException` if it would exceed 400");
        // 19 times 20 bytes, and the last 20 for the end of the text.
        String text = "poly 1 1;" + repeated(" ", 371) + "at -77 0;" + repeated("\n", 11);
        is(400, text.length());
        RootDiscs d = put(new RootDiscs(), text);
        fails(STATE, () -> d.feed(0x20202020, 0x20202020, 0x20202020, 0x20202020, 0x20202020));
        fails(STATE, () -> d.feed(0, 0, 0, 0, 0));
        isLength(400, d);
        is(1, d.readText());
        is(-77, d.point(0, 0));
        for (int room = 0; room < 20; room++) {
            int length = 400 - room;
            put(d, repeated(" ", length));
            fails(STATE, () -> d.feed(1, 1, 1, 1, 1));
            isLength(length, d);
        }
        is(380, d.truncate(380));
        is(400, d.feed(0, 0, 0, 0, 0));
        // Refused bytes are not in the buffer, nor are they later.
        put(d, ONE + repeated(" ", 384));
        fails(STATE, () -> d.feed(0x78787878, 0x78787878, 0x78787878, 0x78787878, 0x78787878));
        is(1, d.readText());
        fails(ARGUMENT, () -> d.readText());
        is(0, d.errorPosition());
        // An emptied buffer takes 400 bytes again.
        for (int i = 1; i <= 20; i++) {
            is(20 * i, d.feed(i, i, i, i, i));
        }
        fails(STATE, () -> d.feed(0, 0, 0, 0, 0));
    }

    static void bytesOfAFeed() {
        about(2, "Appends 20 bytes to the buffer: the four bytes of each argument, the most significant byte first.");
        // "sweep;goal 7;move 0 " and "5 -6;" with blanks behind.
        RootDiscs d = new RootDiscs();
        is(20, d.feed(0x73776565, 0x703b676f, 0x616c2037, 0x3b6d6f76, 0x65203020));
        is(40, d.feed(0x35202d36, 0x3b202020, 0x20202020, 0x20202020, 0x20202020));
        is(3, d.runScript());
        is(7, d.goal());
        isPlaces(d, 5, -6, -35, 0);
        // Each byte alone, in each place of an int: only the blanks 10 and 32 are taken for nothing.
        for (int b = 0; b < 256; b++) {
            for (int shift = 0; shift <= 24; shift += 8) {
                RootDiscs e = new RootDiscs();
                int filled = 0x20202020 & ~(255 << shift) | b << shift;
                e.feed(0x20202020, filled, 0x20202020, 0x20202020, 0x20202020);
                if (b == 10 || b == 32) {
                    is(0, e.runScript());
                } else {
                    fails(ARGUMENT, () -> e.runScript());
                    is(1, e.errorCode());
                    is(4 + (24 - shift) / 8, e.errorPosition());
                }
            }
        }
        RootDiscs f = new RootDiscs();
        f.feed(MOST, LEAST, -1, 0, 1);
        fails(ARGUMENT, () -> f.readText());
        is(0, f.errorPosition());
    }

    static void truncated() {
        about(3, "Throws `IllegalArgumentException` if n is negative or greater than the present length");
        RootDiscs d = new RootDiscs();
        for (int n : new int[] {-1, 1, LEAST, MOST}) {
            fails(ARGUMENT, () -> d.truncate(n));
        }
        is(0, d.truncate(0));
        refuses(ARGUMENT, e -> e.truncate(4));
        refuses(ARGUMENT, e -> e.truncate(-1));
        put(d, ONE);
        for (int n = ONE.length(); n >= 0; n--) {
            int more = n + 1;
            fails(ARGUMENT, () -> d.truncate(more));
            is(n, d.truncate(n));
            if (n > 0) {
                is(n - 1, d.truncate(n - 1));
            }
        }
        // What was cut off does not come back: the next bytes stand right behind what is left.
        put(d, "poly 1 1;at 9 9 9;");
        d.truncate(13);
        is(33, d.feed(0x20383b20, 0x20202020, 0x20202020, 0x20202020, 0x20202020));
        is(1, d.readText());
        isPlaces(d, 9, 8);
        put(d, repeated(";", 400));
        is(400, d.truncate(400));
        is(399, d.truncate(399));
        fails(ARGUMENT, () -> d.truncate(400));
        fails(ARGUMENT, () -> d.truncate(401));
    }

    // ---- reading, errors: promises 4, 6, 7

    static void textOf400Bytes() {
        about(4, "It is read from a buffer of at most 400 bytes.");
        String start = "poly 1 1;";
        String end = "at 12 34;";
        String text = start + repeated(" ", 400 - start.length() - end.length()) + end;
        is(400, text.length());
        reads(text, 1);
        isPlaces(of(text), 12, 34);
        error(text.substring(0, 399) + ":", 1, 399);
        error(text.substring(0, 399), 1, 399);
        error(start + repeated(" ", 391), 5, 400);
        error(repeated(" ", 400), 1, 400);
        error(repeated("\n", 399), 1, 399);
        // Zeros, letters and digits up to the last byte.
        error(repeated("a", 400), 1, 0);
        error("poly " + repeated("1", 395), 1, 5);
        does(0, repeated(" ", 400));
        scriptError(repeated(" ", 396) + "goal", 1, 400);
        scriptError(repeated("(", 400), 1, 0);
        // As many commands as 400 bytes hold, by far more than 30.
        scriptError(repeated("start;", 66), 6, 180);
    }

    static void readTextReplacesAll() {
        about(4, "which replaces all that there is but what is saved and the latest report, and empties the buffer, also if the text has an error");
        RootDiscs d = busy();
        int length = d.report();
        String report = kept(d, length);
        is(1, put(d, ONE).readText());
        isText(state(of(ONE)), state(d));
        is(0, d.errorCode());
        is(NONE, d.errorPosition());
        is(NONE, d.undo());
        isLength(0, d);
        isText(report, kept(d, length));
        is(5, d.restore());
        isText(state(of("poly 7 3 -5 0 2 1;pair 30 20;at 0 0;at 5 7;at 90 -5;goal 9;")), state(d));
        fails(INDEX, () -> d.reportByte(length));
        // A shorter polynomial leaves nothing of the longer one, nor fewer points of more.
        RootDiscs e = of("poly 99 99 99 99 99 99 99;pair 1 1;pair 2 2;pair 3 3;goal 50;");
        put(e, "poly 0 1;at 0 0;").readText();
        isText(state(of("poly 0 1;at 0 0;")), state(e));
        is(0, e.valueAt(0, 0, false));
        is(1, e.visits(0, 0));
        is(0, e.visits(3, 3));
        is(1, e.places());
        is(NONE, e.point(0, 3));
        isText("0.0", "" + e.debtShare());
        // What was told before counts in no share, and no debt stays, also behind a look ahead.
        put(e, "poly 1 -1 1;at 0 0;at 0 0;").readText();
        e.divide(0);
        isText("0.33333334", "" + e.debtShare());
        e.sweepsToSettle(3);
        e.meanRadiusBehind();
        put(e, "poly 2 2 1;at 0 0;at 0 0;").readText();
        is(0, e.debts());
        e.divide(0);
        isText("0.4", "" + e.debtShare());
    }

    static void readTextWithAnError() {
        about(4, "Throws `IllegalArgumentException` if the text has an error; only the buffer, errorCode() and errorPosition() change then");
        // Errors at the first token, in the midst and at the very end.
        String[] texts = {"", "x", "poly 1 0;", "poly 9 9 9;at 1 1;at 2 2;goal 0;", "poly 9 9 9;at 1 1;goal 77;", "poly 9 9 9;pair 1 1;at"};
        int[] codes = {1, 1, 3, 2, 5, 6};
        int[] positions = {0, 0, 8, 30, 26, 20};
        for (int i = 0; i < texts.length; i++) {
            RootDiscs d = busy();
            RootDiscs twin = busy();
            put(d, texts[i]);
            fails(ARGUMENT, () -> d.readText());
            is(codes[i], d.errorCode());
            is(positions[i], d.errorPosition());
            isLength(0, d);
            isText(state(twin), state(d));
            is(twin.reportByte(0), d.reportByte(0));
            is(twin.undo(), d.undo());
            isText(state(twin), state(d));
            is(twin.undo(), d.undo());
            is(twin.undo(), d.undo());
            isText(state(twin), state(d));
            is(twin.restore(), d.restore());
            isText(state(twin), state(d));
        }
    }

    static void errorOfTheLatest() {
        about(6, "Returns the code of the error of the latest readText() or runScript(); 0 if there was none or no such call.");
        RootDiscs d = new RootDiscs();
        is(0, d.errorCode());
        put(d, "poly 1 1;");
        is(0, d.errorCode());
        fails(ARGUMENT, () -> d.readText());
        is(5, d.errorCode());
        // An error stays till the next reading, whatever else is called.
        d.feed(0, 0, 0, 0, 0);
        d.truncate(0);
        d.sweep();
        d.undo();
        d.save();
        d.restore();
        d.report();
        is(5, d.errorCode());
        is(9, d.errorPosition());
        about(7, "Returns the position of that error; NONE if there was none or no such call.");
        is(NONE, new RootDiscs().errorPosition());
        is(0, run(d, ""));
        is(0, d.errorCode());
        is(NONE, d.errorPosition());
        put(d, "goal");
        fails(ARGUMENT, () -> d.runScript());
        is(1, d.errorCode());
        is(4, d.errorPosition());
        is(1, put(d, ONE).readText());
        is(0, d.errorCode());
        is(NONE, d.errorPosition());
        // A script that ends at a command that would throw has no error.
        is(0, run(d, "refine 9;"));
        is(0, d.errorCode());
        is(NONE, d.errorPosition());
    }

    // ---- the tokens: section 5

    static void words() {
        about(6, "A word is a maximal run of letters a to z, at most 8 of them.");
        error("polypoly 1 1;", 1, 0);
        error("polypolyp 1 1;", 1, 0);
        error("pol y 1 1;", 1, 0);
        error("POLY 1 1;", 1, 0);
        error("polY 1 1;", 1, 0);
        error("poly 1 1;a t 0 0;", 1, 9);
        error("poly 1 1;att 0 0;", 1, 9);
        error("poly 1 1;attttttt 0 0;", 1, 9);
        error("poly 1 1;a 0 0;", 1, 9);
        error("poly 1 1 1;pairs 0 1;", 1, 11);
        error("poly 1 1 1;pai 0 1;", 1, 11);
        error("poly 1 1;goalat 0 0;", 1, 9);
        // Each letter counts, the first one and the last one, too.
        String[] sayings = {"poly", "at", "pair", "goal"};
        String[] ahead = {"", "poly 1 1 1;", "poly 1 1 1;", "poly 1 1 1;"};
        String[] behind = {" 1 1 1;at 0 0;at 0 0;", " 0 0;at 0 0;", " 0 1;", " 5;at 0 0;at 0 0;"};
        for (int w = 0; w < sayings.length; w++) {
            reads(ahead[w] + sayings[w] + behind[w], 2);
            for (int i = 0; i < sayings[w].length(); i++) {
                error(ahead[w] + other(sayings[w], i) + behind[w], 1, ahead[w].length());
            }
        }
        String[] commands = {"refine 0", "sweep", "run 1", "spread 1", "start", "move 0 0 0", "divide 0", "goal 5", "repeat 1()"};
        for (String command : commands) {
            does(command.startsWith("repeat") ? 0 : 1, command + ";");
            for (int i = 0; i < command.length() && command.charAt(i) >= 'a'; i++) {
                scriptError("goal 5;" + other(command, i) + ";", 1, 7);
            }
        }
        for (int i = 9; i < 13; i++) {
            scriptError(other("divide 0 pair 1;", i), 1, 9);
        }
        // No blank is asked for between a word and a number, but between two numbers.
        reads("poly1 1;at0 0;", 1);
        reads("poly-1-1;at-0-0;", 1);
        error("poly11;at0 0;", 1, 6);
        reads("poly1 1;goal3;at0-0;", 1);
        about(6, "Every other byte, a longer run of letters and a longer run of digits is an invalid token.");
        for (int b = 0; b < 256; b++) {
            char c = (char) b;
            boolean isBlank = b == 10 || b == 32;
            boolean isDigit = c >= '0' && c <= '9';
            boolean isLetter = c >= 'a' && c <= 'z';
            // Behind a number.
            if (isBlank || isDigit) {
                reads("poly 1 1" + c + ";at 0 0;", 1);
            } else {
                error("poly 1 1" + c + ";at 0 0;", 1, c == ';' || c == '-' ? 9 : 8);
            }
            // Behind a word: a letter makes it another one.
            if (isBlank) {
                does(1, "sweep" + c + ";");
            } else {
                scriptError("sweep" + c + ";", 1, isLetter ? 0 : c == ';' ? 6 : 5);
            }
            // Ahead of all.
            if (isBlank) {
                reads(c + ONE, 1);
            } else {
                error(c + ONE, 1, 0);
            }
        }
    }

    static void numbers() {
        about(6, "A number N is a maximal run of digits, at most 4 of them.");
        reads("poly 0001 0099;at 0256 0;", 1);
        reads("poly 1 1;at 0 0;goal 0001;", 1);
        error("poly 00001 1;", 1, 5);
        error("poly 1 1;at 00256 0;", 1, 12);
        error("poly 1 1;at -00001 0;", 1, 13);
        error("poly 1 1;at 0 0;goal 00001;", 1, 21);
        error("poly 1 1;goal 10000;", 1, 14);
        error("poly 1 1;goal 9999;", 2, 14);
        error("poly 9999 1;", 2, 5);
        error("poly -9999 1;", 2, 6);
        error("poly 1 1;at 12 345 6;", 2, 15);
        error("poly 1 1;at 12 5 6;", 1, 17);
    }

    static void blanks() {
        about(6, "Spaces (byte 32) and line feeds (byte 10) may stand before, between and behind tokens.");
        reads("\n \n poly \n 1 \n - \n 1 \n ; \n at \n - \n 0 \n 0 \n ; \n goal \n 5 \n ; \n \n", 1);
        isPolynomial(of("poly 1 -\n\n1;at 0 0;"), 1, -1);
        does(3, "\n repeat \n 2 \n ( \n sweep \n ; \n ) \n ; goal\n5 \n;\n");
        error("poly 1 1;\rat 0 0;", 1, 9);
        error("poly 1 1;\tat 0 0;", 1, 9);
        error("poly 1 1;" + (char) 160 + "at 0 0;", 1, 9);
    }

    static void signs() {
        about(6, "S is the number, or, behind a minus sign, its negative.");
        isPolynomial(of("poly -0 -99;at 0 0;"), 0, -99);
        isPlaces(of("poly 1 1 1;at -256 -256;at - 1 -01;"), -256, -256, -1, -1);
        error("poly --1 1;", 1, 6);
        reads("poly 1- 1;at 0 0;", 1);
        error("poly 1 1-;", 1, 9);
        error("poly 1 1;at - ;", 1, 14);
        error("poly 1 1;at 0 - -1;", 1, 16);
        error("poly 1 1;at +1 0;", 1, 12);
        error("poly 1 1;goal -5;", 1, 14);
        error("poly 1 1;goal - 5;", 1, 14);
    }

    static void coefficientsTold() {
        about(4, "\"poly\" tells c(0), c(1) and so on (-99 to 99 each; 2 to 7 of them).");
        isPolynomial(of("poly 99 -99;at 0 0;"), 99, -99);
        isPolynomial(of("poly 1 2 3 4 5 6 7;pair 1 1;pair 1 1;pair 1 1;"), 1, 2, 3, 4, 5, 6, 7);
        error("poly;", 1, 4);
        error("poly 1;", 1, 6);
        error("poly -;", 1, 6);
        // Each of the seven has the range.
        for (int k = 0; k < 7; k++) {
            StringBuilder large = new StringBuilder("poly");
            StringBuilder small = new StringBuilder("poly");
            int position = 0;
            for (int i = 0; i < 7; i++) {
                position = i == k ? large.length() + 1 : position;
                large.append(i == k ? " 100" : " 1");
                small.append(i == k ? " -100" : " 1");
            }
            error(large + ";", 2, position);
            error(small + ";", 2, position + 1);
        }
        about(6, "(also an eighth S of \"poly\")");
        error("poly 1 2 3 4 5 6 7 8;", 1, 19);
        error("poly 1 2 3 4 5 6 7 -8;", 1, 19);
        error("poly 1 2 3 4 5 6 7 -;", 1, 19);
        error("poly 1 2 3 4 5 6 7 100;", 1, 19);
        error("poly 1 2 3 4 5 6 7 x;", 1, 19);
        error("poly 1 2 3 4 5 6 0 0;", 1, 19);
        // The first token of an eighth S is told, whatever follows, and blanks ahead of it are no part of it.
        error("poly 1 2 3 4 5 6 7 - 8;", 1, 19);
        error("poly 1 2 3 4 5 6 7-8;", 1, 18);
        error("poly 1 2 3 4 5 6 7 \n -\n100;", 1, 21);
        error("poly 1 2 3 4 5 6 7 12345;", 1, 19);
        error("poly -1 -2 -3 -4 -5 -6 -7 -8", 1, 26);
        error("poly -1 -2 -3 -4 -5 -6 -7 -8 -9;at 999", 1, 26);
        reads("poly -1 -2 -3 -4 -5 -6 -7;pair 0 1;pair 0 1;pair 0 1;", 6);
    }

    static void pointsTold() {
        about(4, "\"at\" tells a point, \"pair\" the first point of a pair (its y is 1 to 256).");
        isPlaces(of("poly 1 1 1 1;pair -256 256;at 256 -256;"), -256, 256, -256, -256, 256, -256);
        isPlaces(of("poly 1 1 1;pair 256 1;"), 256, 1, 256, -1);
        String at = "poly 1 1 1;at ";
        String pair = "poly 1 1 1;pair ";
        for (String start : new String[] {at, pair}) {
            error(start + "257 1;", 2, start.length());
            error(start + "-257 1;", 2, start.length() + 1);
            error(start + "9999 1;", 2, start.length());
            error(start + "0 257;", 2, start.length() + 2);
            error(start + "0 -257;", 2, start.length() + 3);
            error(start + ";", 1, start.length());
            error(start + "0;", 1, start.length() + 1);
            error(start + "0 1", 1, start.length() + 3);
            error(start + "0 1 1;", 1, start.length() + 4);
        }
        error(pair + "0 0;", 2, pair.length() + 2);
        error(pair + "0 -0;", 2, pair.length() + 3);
        error(pair + "0 -1;", 2, pair.length() + 3);
        error(pair + "0 -256;", 2, pair.length() + 3);
        reads(at + "0 -1;at 0 0;", 2);
    }

    static void goalsTold() {
        about(6, "\"goal\" sets the goal (1 to 99; 2 without it); it may stand once.");
        is(1, of("poly 1 1;goal 1;at 0 0;").goal());
        is(99, of("poly 1 1;at 0 0;goal 99;").goal());
        error("poly 1 1;goal 0;", 2, 14);
        error("poly 1 1;goal 100;", 2, 14);
        error("poly 1 1;goal;", 1, 13);
        error("poly 1 1;goal 5", 1, 15);
        error("poly 1 1;goal 5 5;", 1, 16);
        error("goal 5;poly 1 1;", 1, 0);
        about(6, "3: the first word of a second \"goal\"; the semicolon behind the S of \"poly\" if the last one was 0.");
        error("poly 1 1;goal 5;at 0 0;goal 5;", 3, 23);
        error("poly 1 1;goal 5;goal;", 3, 16);
        error("poly 1 1;goal 5;goal 0;", 3, 16);
        error("poly 1 1;goal 5;goal", 3, 16);
        error("poly 1 1;goal 5;goals 5;", 1, 16);
        // A goal behind an error or of another text is no first one.
        RootDiscs d = put(new RootDiscs(), "poly 1 1;goal 5;goal 6;");
        fails(ARGUMENT, () -> d.readText());
        is(1, put(d, "poly 1 1;goal 7;at 0 0;").readText());
        is(1, put(d, "poly 1 1;goal 8;at 0 0;").readText());
        is(8, d.goal());
    }

    static void leadingZeros() {
        about(6, "the semicolon behind the S of \"poly\" if the last one was 0");
        for (int n = 1; n <= 6; n++) {
            String start = "poly" + repeated(" 7", n) + " 0";
            error(start + ";", 3, start.length());
            error(start + " ;at", 3, start.length() + 1);
            String minus = "poly" + repeated(" 7", n) + " -0";
            error(minus + ";", 3, minus.length());
        }
        // It is no error yet without the semicolon, nor if another S comes.
        error("poly 7 0", 1, 8);
        error("poly 7 0 x;", 1, 9);
        error("poly 7 0(", 1, 8);
        reads("poly 7 0 1;at 0 0;at 0 0;", 2);
        error("poly 0;", 1, 6);
    }

    static void missingPoints() {
        about(6, "5: the end of the text if there are fewer points than the degree.");
        error("poly 1 1;", 5, 9);
        error("poly 1 1; \n", 5, 11);
        error("poly 1 1 1;at 0 0;", 5, 18);
        error("poly 1 1 1 1;pair 0 1;goal 9;", 5, 29);
        error("poly 1 1 1 1 1 1 1;pair 0 1;pair 0 1;at 0 0;", 5, 44);
        error("poly 1 1 1 1 1 1 1;pair 0 1;pair 0 1;", 5, 37);
        // Within a statement, the end is not allowed at all: the lower code.
        about(6, "if several codes apply at one token, the lowest one");
        error("poly 1 1;at", 1, 11);
        error("poly 1 1;at 0 0", 1, 15);
        error("poly 1 1;goal", 1, 13);
        error("poly 1 1", 1, 8);
        error("poly 1", 1, 6);
        error("poly", 1, 4);
        error("", 1, 0);
    }

    static void textsThatEndTooEarly() {
        about(7, "the index of the first byte of a token, or the length of the text if it ends too early");
        String[] tokens = {"poly", "-", "1", "2", "-", "3", "1", ";", "at", "-", "5", "6", ";", "goal", "9", ";",
            "pair", "-", "7", "8", ";"};
        // Each start of it, with and without blanks behind: a statement that ends is 5, one that does not is 1.
        String start = "";
        for (int i = 0; i <= tokens.length; i++) {
            boolean isWhole = start.endsWith(";");
            for (String blanks : new String[] {"", " ", "\n", "  \n "}) {
                String text = start + blanks;
                if (i == tokens.length) {
                    reads(text, 3);
                } else {
                    error(text, isWhole ? 5 : 1, text.length());
                }
            }
            start += i == tokens.length ? "" : " " + tokens[i];
        }
        // With enough points an end within a statement is an error, too, and the only one.
        for (String more : new String[] {"goal", "goal 5"}) {
            error(ONE + more, 1, ONE.length() + more.length());
            error(ONE + more + "\n", 1, ONE.length() + more.length() + 1);
        }
        error("poly 1 1;at 0 0", 1, 15);
        error("poly 1 1 1;pair 0 1 ", 1, 20);
    }

    static void scriptsThatEndTooEarly() {
        about(7, "the length of the text if it ends too early");
        String[] tokens = {"refine", "0", ";", "repeat", "2", "(", "move", "1", "-", "5", "6", ";", "repeat", "3", "(",
            "sweep", ";", ")", ";", ")", ";", "divide", "-", "1", "pair", "2", ";", "start", ";"};
        String start = "";
        int open = 0;
        for (int i = 0; i <= tokens.length; i++) {
            boolean isWhole = open == 0 && (start.isEmpty() || start.endsWith(";"));
            for (String blanks : new String[] {"", " ", "\n", "  \n "}) {
                String script = start + blanks;
                if (isWhole) {
                    RootDiscs d = put(new RootDiscs(), script);
                    is(true, d.runScript() >= 0);
                    is(0, d.errorCode());
                    is(NONE, d.errorPosition());
                } else {
                    scriptError(script, 1, script.length());
                }
            }
            if (i < tokens.length) {
                open += tokens[i].equals("(") ? 1 : tokens[i].equals(")") ? -1 : 0;
                start += " " + tokens[i];
            }
        }
    }

    static void morePoints() {
        about(6, "6: the first word of an \"at\" or a \"pair\" with which there would be more points than the degree.");
        error("poly 1 1;at 0 0;at 0 0;", 6, 16);
        error("poly 1 1;at 0 0;goal 5;at", 6, 23);
        error("poly 1 1;at 0 0;pair 0 1;", 6, 16);
        error("poly 1 1;pair 0 1;", 6, 9);
        error("poly 1 1 1;at 0 0;pair 0 1;", 6, 18);
        error("poly 1 1 1;pair 0 1;at 0 0;", 6, 20);
        error("poly 1 1 1;pair 0 1;pair 0 1;", 6, 20);
        error("poly 1 1 1 1 1 1 1;pair 0 1;pair 0 1;pair 0 1;at 0 0;", 6, 46);
        error("poly 1 1 1 1 1 1 1;pair 0 1;pair 0 1;at 0 0;pair 0 1;", 6, 44);
        error("poly 1 1;at 0 0;ats", 1, 16);
        error("poly 1 1;at 0 0;at 999 999 x", 6, 16);
        reads("poly 1 1 1 1 1 1 1;at 0 0;pair 0 1;at 0 0;pair 0 1;", 6);
    }

    static void firstErrorCounts() {
        about(6, "Tokens are checked from left to right and the first error is reported");
        error("poly 100 x;", 2, 5);
        error("poly x 100;", 1, 5);
        error("poly 1 0;at 999", 3, 8);
        error("poly 1 1;at 0 999;at 0 0;at 0 0;", 2, 14);
        error("poly 1 1;at 0 0;at 0 999;", 6, 16);
        error("poly 1 1;goal 0;goal 1;", 2, 14);
        error("poly 1 1;goal 5;goal 0;at 0 0;at 0 0;", 3, 16);
        error("poly 1 1;at 0 0;?poly", 1, 16);
    }

    // ---- scripts: section 7, promise 5

    static void emptyScripts() {
        about(5, "script = { command \";\" }");
        does(0, "");
        does(0, "\n \n");
        does(0, "repeat 20();");
        does(0, "repeat 1(repeat 20(););repeat 20(repeat 1(););");
        scriptError(";", 1, 0);
        scriptError("sweep;;", 1, 6);
        scriptError("repeat 1(;);", 1, 9);
        scriptError("repeat 1()", 1, 10);
        scriptError("repeat 1() sweep;", 1, 11);
        scriptError("(sweep;);", 1, 0);
        scriptError("sweep;)", 1, 6);
        scriptError("repeat 1(sweep;));", 1, 16);
        scriptError("repeat 1(", 1, 9);
        scriptError("repeat 1(sweep; ", 1, 16);
        scriptError("repeat 1(repeat 1(sweep;);", 1, 26);
        scriptError("repeat 1 (sweep)", 1, 15);
    }

    static void scriptWithAnError() {
        about(5, "Throws `IllegalArgumentException` if the text has an error; only the buffer, errorCode() and errorPosition() change then");
        String[] scripts = {"x", "sweep;goal 9;spread 5;x", "goal 9;repeat 21(sweep;);", "repeat 2(repeat 2(sweep;repeat",
            "sweep;divide 1;goal 9;" + repeated("start;", 28), "goal 9"};
        int[] codes = {1, 1, 2, 4, 6, 1};
        int[] positions = {0, 22, 14, 24, 184, 6};
        for (int i = 0; i < scripts.length; i++) {
            RootDiscs d = busy();
            RootDiscs twin = busy();
            put(d, scripts[i]);
            fails(ARGUMENT, () -> d.runScript());
            is(codes[i], d.errorCode());
            is(positions[i], d.errorPosition());
            isLength(0, d);
            isText(state(twin), state(d));
            is(twin.reportByte(0), d.reportByte(0));
            is(twin.undo(), d.undo());
            isText(state(twin), state(d));
        }
    }

    static void numbersOfScripts() {
        about(5, "numbers are 0 to 9999 (an S: -9999 to 9999), of \"repeat\" 1 to 20");
        // No error; the method would throw, so the script ends there.
        String[] ends = {"refine 9999", "run 0", "run 9999", "spread 0", "spread 9999", "move 9999 0 0", "move 0 9999 0",
            "move 0 -9999 0", "move 0 0 -9999", "move 0 0 9999", "divide 9999", "divide -9999", "divide 0 pair 0",
            "divide 0 pair 9999", "divide -9999 pair 9999", "goal 0", "goal 9999"};
        for (String end : ends) {
            does(0, end + ";goal 5;");
            does(1, "goal 5;" + end + ";goal 6;");
        }
        String[] words = {"refine ", "run ", "spread ", "goal ", "repeat "};
        for (String word : words) {
            scriptError(word + "-1;", 1, word.length());
            scriptError(word + "-0;", 1, word.length());
            scriptError(word + "10000;", 1, word.length());
            scriptError(word + ";", 1, word.length());
            scriptError(word + "x;", 1, word.length());
        }
        scriptError("move -1 0 0;", 1, 5);
        scriptError("move 0 10000 0;", 1, 7);
        scriptError("move 0 0 -10000;", 1, 10);
        scriptError("move 0 0;", 1, 8);
        scriptError("move 0 0 0 0;", 1, 11);
        scriptError("divide;", 1, 6);
        scriptError("divide 10000;", 1, 7);
        scriptError("divide 1 pair -1;", 1, 14);
        scriptError("divide 1 pair 10000;", 1, 14);
        scriptError("divide 1 pair;", 1, 13);
        scriptError("divide 1 1;", 1, 9);
        scriptError("divide pair 1;", 1, 7);
        scriptError("divide 1 at 1;", 1, 9);
        scriptError("sweep 1;", 1, 6);
        scriptError("start 1;", 1, 6);
        scriptError("repeat 0();", 2, 7);
        scriptError("repeat 21();", 2, 7);
        scriptError("repeat 9999();", 2, 7);
        scriptError("repeat 00000();", 1, 7);
        does(1, "repeat 1(goal 5;);");
        does(20, "repeat 20(goal 5;);");
        does(20, "repeat 0020(goal 5;);");
    }

    static void commandsThatWouldThrow() {
        about(5, "A script ends, also within a \"repeat\", at a command whose method would throw an exception; the commands before stay done, and it is not counted.");
        String pair = "poly 1 1 1 1;pair 0 9;at 7 7;";
        // Just within and just beyond what each method takes; point 2 is no more behind a division.
        String[] taken = {"refine 0", "refine 1", "run 1", "run 50", "spread 1", "spread 256", "start", "sweep", "move 0 256 256",
            "move 1 -256 -256", "move 2 -256 -256", "move 0 0 1", "move 1 0 -1", "move 2 256 256", "divide 8", "divide -8",
            "divide 8 pair 8", "divide -8 pair 1", "goal 1", "goal 99"};
        String[] refused = {"refine 3", "run 0", "run 51", "spread 0", "spread 257", "move 3 0 0", "move 0 257 1", "move 0 -257 1",
            "move 1 0 -257", "move 2 0 257", "move 0 0 0", "move 0 0 -1", "move 1 0 0", "move 1 0 1", "divide 9", "divide -9",
            "divide 9 pair 8", "divide -9 pair 1", "divide 0 pair 9", "divide 0 pair 0", "goal 0", "goal 100"};
        for (String command : taken) {
            RootDiscs d = of(pair);
            is(2, run(d, command + ";goal 77;"));
            is(77, d.goal());
            is(0, d.undo());
            isText(state(of(pair)), state(d));
        }
        for (String command : refused) {
            RootDiscs d = of(pair);
            is(1, run(d, "goal 5;" + command + ";goal 77;"));
            isText(state(of(pair + "goal 5;")), state(d));
            is(0, d.undo());
            isText(state(of(pair)), state(d));
            is(1, run(d, "repeat 3(repeat 3(goal 6;" + command + ";goal 77;););goal 78;"));
            is(6, d.goal());
        }
        // Reasons against a division: the degree, no point without a pair, no pair, a large coefficient.
        is(2, run(of("poly 1 1 1 1;at 0 0;at 0 0;at 0 0;"), "divide 0;divide 0;divide 0;goal 5;"));
        is(0, run(of("poly 1 1 1;pair 0 9;"), "divide 0;goal 5;"));
        is(0, run(of("poly 1 1 1;pair 0 9;"), "divide 0 pair 1;goal 5;"));
        is(0, run(of("poly 1 1 1 1;at 0 0;at 0 0;at 0 0;"), "divide 0 pair 1;goal 5;"));
        is(0, run(of("poly 0 8 33 0 19;at 0 0;at 0 0;at 0 0;at 0 0;"), "divide 8;goal 5;"));
        is(2, run(of("poly 0 7 33 0 19;at 0 0;at 0 0;at 0 0;at 0 0;"), "divide 8;goal 5;"));
        // A later round may find what an earlier one changed: the third division finds the degree 1.
        RootDiscs e = of("poly 1 1 1 1;at 0 0;at 0 0;at 0 0;");
        is(4, run(e, "repeat 9(divide 0;goal 5;);"));
        is(1, e.degree());
    }

    static void fortyCommands() {
        about(5, "It also ends early when 40 commands (\"repeat\" not counted) were done.");
        RootDiscs d = new RootDiscs();
        is(40, run(d, "repeat 20(goal 3;goal 4;);"));
        is(4, d.goal());
        is(40, run(d, "repeat 20(goal 3;goal 4;);goal 5;"));
        is(4, d.goal());
        is(39, run(d, "repeat 13(goal 3;goal 4;goal 6;);"));
        is(40, run(d, "repeat 13(goal 3;goal 4;goal 6;);goal 7;"));
        is(7, d.goal());
        is(40, run(d, "repeat 14(goal 3;goal 4;goal 6;);goal 8;"));
        is(3, d.goal());
        is(40, run(d, "repeat 20(repeat 20(goal 9;););goal 10;"));
        is(9, d.goal());
        // In the first round of an inner one, with commands behind it.
        is(40, run(d, "repeat 20(goal 11;repeat 1(goal 12;);goal 13;);"));
        is(11, d.goal());
        is(40, run(d, "goal 1;repeat 20(goal 11;repeat 1(goal 12;);goal 13;);"));
        is(13, d.goal());
        is(40, run(d, "repeat 20(repeat 2(goal 14;););repeat 0020();goal 15;"));
        // Nothing is looked at behind the 40th: no wrong command, though it would end the script, too.
        is(40, run(d, "repeat 20(goal 3;goal 4;);goal 0;"));
        is(39, run(d, "repeat 13(goal 3;goal 4;goal 6;);goal 0;"));
    }

    static void repeatsWithin() {
        about(6, "4: the first word of a \"repeat\" within two others");
        does(8, "repeat 2(repeat 2(sweep;););repeat 2(repeat 2(sweep;););");
        scriptError("repeat 2(repeat 2(repeat 2(sweep;););", 4, 18);
        scriptError("repeat 2(repeat 2(repeat", 4, 18);
        scriptError("repeat 2(repeat 2(repeat 0();););", 4, 18);
        scriptError("repeat 2(repeat 2(sweep;);repeat 2(sweep;repeat 2(sweep;);););", 4, 41);
        scriptError("repeat 2(repeat 2(repeats", 1, 18);
        does(4, "repeat 2(repeat 1(sweep;);repeat 1(sweep;););");
        RootDiscs d = new RootDiscs();
        is(12, run(d, "repeat 3(goal 5;repeat 2(goal 6;);goal 7;);"));
        is(7, d.goal());
    }

    static void thirtyOneCommands() {
        about(6, "6: the first word of a 31st command of the text (\"repeat\" counts as one, too).");
        String goals = repeated("goal 5;", 30);
        does(30, goals);
        scriptError(goals + "goal 5;", 6, 210);
        scriptError(goals + " repeat 1();", 6, 211);
        scriptError(goals + "goal", 6, 210);
        scriptError(goals + "goal 0 0 0", 6, 210);
        scriptError(goals + "goals 5;", 1, 210);
        scriptError(goals + ";", 1, 210);
        scriptError(goals + ")", 1, 210);
        does(0, repeated("repeat 1();", 30));
        scriptError(repeated("repeat 1();", 30) + "sweep;", 6, 330);
        String within = "repeat 1(" + repeated("goal 5;", 29);
        does(29, within + ");");
        scriptError(within + "goal 5;);", 6, within.length());
        scriptError(within + ");goal 5;", 6, within.length() + 2);
        // The lowest one of 4 and 6.
        String deep = "repeat 1(repeat 1(" + repeated("goal 5;", 28);
        does(28, deep + "););");
        scriptError(deep + "repeat 1();););", 4, deep.length());
        scriptError(deep + "goal 5;););", 6, deep.length());
        // A script that was refused leaves nothing of its commands to the next one.
        RootDiscs d = put(new RootDiscs(), goals + "goal 6;");
        fails(ARGUMENT, () -> d.runScript());
        is(1, run(d, "goal 7;"));
        is(7, d.goal());
        is(30, run(d, goals));
    }

    static void eachCommand() {
        about(5, "The commands are as the methods refine(), sweep(), run(), spread(), start(), move(), divide(), dividePair() and setGoal()");
        String text = "poly 5 -7 3 -2 1 1;at 100 20;pair -30 40;at 7 -9;at -60 3;";
        String[] scripts = {"refine 0;", "refine 1;", "refine 2;", "sweep;", "run 1;", "run 7;", "spread 33;", "start;", "move 4 -9 8;",
            "move 1 5 6;", "move 2 5 -6;", "divide -2;", "divide 1 pair 2;", "goal 44;"};
        CallOn[] calls = {d -> d.refine(0), d -> d.refine(1), d -> d.refine(2), d -> d.sweep(), d -> d.run(1), d -> d.run(7),
            d -> d.spread(33), d -> d.start(), d -> d.move(4, -9, 8), d -> d.move(1, 5, 6), d -> d.move(2, 5, -6), d -> d.divide(-2),
            d -> d.dividePair(1, 2), d -> d.setGoal(44)};
        for (int i = 0; i < calls.length; i++) {
            RootDiscs byScript = of(text);
            RootDiscs byCall = of(text);
            is(1, run(byScript, scripts[i]));
            calls[i].go(byCall);
            isText(state(byCall), state(byScript));
            is(false, state(byCall).equals(state(of(text))));
        }
    }
}
