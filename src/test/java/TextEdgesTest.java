/** Promises 1 to 4 and what the terms say of the text: a test for each sentence that names an edge. */
public final class TextEdgesTest {
    private static final int BAD = -1, STATE = -2, FULL = -3, NONE = -9, NOT_SO_MANY = -5;

    private static final String NINE_WORDS = "word a 0 0 0;".repeat(9);
    private static final String FOUR_SHAPES = "shape 0;".repeat(4);

    public static void main(String[] args) {
        newObjectHasNoWordsNoShapes();
        newObjectHasNothingElse();
        typeTakesOneToEightBytes();
        typeTakesTheLowestBytesTheHighestFirst();
        typeTakesBytesOfAnyNumber();
        textHasTwoHundredBytesAtMost();
        typeIsBadAheadOfFull();
        clearTellsHowManyThereWere();
        clearedTextIsGone();
        textMayHaveNoItems();
        itemsAreEndedBySemicolons();
        blanksAreThirtyTwoAlone();
        blanksMayBeAnyNumber();
        blanksAreNeededBetweenLikeTokensAlone();
        nineWordsAtMost();
        oneToFiveSigns();
        signsAreAToH();
        wordNeedsAllItsParts();
        kindIsNoughtToTwo();
        ownIsNoughtToNine();
        otherIsNoughtToNine();
        fourShapesAtMost();
        oneToThreeKinds();
        everyByteAheadOfAnItem();
        everyByteBehindANumber();
        everyByteBehindSigns();
        wordsOfLettersThatAreNoneOfThese();
        numbersAboveNinetyNine();
        numbersWithANoughtAhead();
        textEndsTooEarly();
        faultIsTheFirstOne();
        faultsAtTheEndsOfTheText();
        faultyTextCanBeWrittenOn();
        tongueEmptiesTheText();
        tongueTellsAllAnew();
        tongueTellsAnswersAnew();
        tongueTellsNothingAnew();
        anewNoneWasWritten();
        anewImagesAreGone();
        anewNothingCanBeUndone();
        anewTheTraceGoesOn();
        behindAFaultAllGoesOn();
        Check.end();
    }

    // ---- promise 1

    /** "no WORDS, no SHAPES". */
    private static void newObjectHasNoWordsNoShapes() {
        SameLetters x = new SameLetters();
        Check.due("1: words", x.count(0), 0);
        Check.due("1: shapes", x.count(1), 0);
        Check.due("1: word 0", x.word(0, 0), BAD);
        Check.due("1: signs of word 0", x.spell(0, 0), BAD);
        Check.due("1: shape 0", x.shape(0, 0), BAD);
        Check.due("1: rate of word 0", x.rate(0, 0), SameLetters.NO);
        Check.due("1: letters", x.says(-1), 0);
    }

    /** "As told": an empty text, none was written, none was kept, the trace 0. */
    private static void newObjectHasNothingElse() {
        SameLetters x = new SameLetters();
        Check.due("1: bytes", x.count(3), 0);
        Check.due("1: written", x.count(2), 0);
        Check.due("1: the first that was written", x.wrote(0), NOT_SO_MANY);
        Check.due("1: undo", x.undo(), STATE);
        Check.due("1: what side 0 has", x.side(0), 0);
        Check.due("1: what side 1 has", x.side(1), 0);
        Check.due("1: image 0", x.back(0), STATE);
        Check.due("1: image 1", x.back(1), STATE);
        Check.due("1: trace", x.trace(), 0);
        Check.due("1: mute", x.mute(0), 0);
        Check.due("1: most own", x.says(-2), NONE);
        Check.due("1: a text of nothing", x.tongue(), 0);
    }

    // ---- promise 2

    /** "The lowest n (1 .. 8) bytes of v". */
    private static void typeTakesOneToEightBytes() {
        for (int n : new int[] {Integer.MIN_VALUE, -8, -1, 0, 9, 16, 64, 72, Integer.MAX_VALUE}) {
            SameLetters x = new SameLetters();
            Check.due("2: n " + n, x.type(-1, n), BAD);
            Check.due("2: no bytes behind n " + n, x.count(3), 0);
        }
        for (int n = 1; n <= 8; n++) {
            SameLetters x = new SameLetters();
            Check.due("2: n " + n, x.type(-1, n), n);
            Check.due("2: bytes behind n " + n, x.count(3), n);
            Check.due("2: n " + n + " twice", x.type(0, n), 2 * n);
        }
    }

    /** "The lowest n bytes of v, the highest of them first". */
    private static void typeTakesTheLowestBytesTheHighestFirst() {
        long shape = 0x736861706520303bL;
        for (int n = 1; n <= 7; n++) {
            SameLetters x = new SameLetters();
            x.type(shape >>> (8 * n), 8 - n);
            // Whatever stands ahead of the lowest n bytes must not come to the text.
            long behind = shape & ((1L << (8 * n)) - 1) | -1L << (8 * n);
            Check.due("2: the lowest " + n, x.type(behind, n), 8);
            Check.due("2: read as one", x.tongue(), 1);
        }
        SameLetters x = new SameLetters();
        Check.due("2: all eight", x.type(shape, 8), 8);
        Check.due("2: all eight read", x.tongue(), 1);
    }

    /** A byte is 0 .. 255; v may be below 0. */
    private static void typeTakesBytesOfAnyNumber() {
        long[] rows = {0x736861706520303bL, 0x80L << 56 | 0x20202020202020L, 0xff20202020202020L};
        int[] due = {1, -10, -10};
        for (int i = 0; i < rows.length; i++) {
            SameLetters x = new SameLetters();
            Check.due("2: row " + i, x.type(rows[i], 8), 8);
            Check.due("2: row " + i + " read", x.tongue(), due[i]);
        }
        SameLetters x = new SameLetters();
        Check.due("2: a byte 0", x.type(0, 1), 1);
        Check.due("2: a byte 0 is none that begins a token", x.tongue(), -10);
        SameLetters y = new SameLetters();
        // With its highest bit the byte would be "a", a blank or a figure.
        Check.typed(y, "shape " + (char) (128 + '0') + ";");
        Check.due("2: 176 is no figure", y.tongue(), -10 - 6);
    }

    /** "a text (200 bytes at most)"; "FULL". */
    private static void textHasTwoHundredBytesAtMost() {
        long blanks = 0x2020202020202020L;
        for (int n = 1; n <= 8; n++) {
            SameLetters x = new SameLetters();
            Check.typed(x, " ".repeat(200 - n));
            Check.due("2: " + n + " up to 200", x.type(blanks, n), 200);
            Check.due("2: " + n + " beyond 200", x.type(blanks, n), FULL);
            Check.due("2: one beyond 200", x.type(blanks, 1), FULL);
            SameLetters y = new SameLetters();
            Check.typed(y, " ".repeat(201 - n));
            Check.due("2: " + n + " up to 201", y.type(blanks, n), FULL);
            Check.due("2: nothing of " + n + " came", y.count(3), 201 - n);
            Check.due("2: blanks alone", y.tongue(), 0);
        }
        SameLetters z = new SameLetters();
        Check.typed(z, " ".repeat(187) + "shape 0 1");
        Check.due("2: eight up to 204", z.type(0x3b3b3b3b3b3b3b3bL, 8), FULL);
        Check.due("2: four up to 200", z.type(0x2032203bL, 4), 200);
        Check.due("2: read as if none had been refused", z.tongue(), 1);
        Check.due("2: with the last kind", z.shape(0, 2), 2);
    }

    /** "the first of these: BAD, STATE, FULL". */
    private static void typeIsBadAheadOfFull() {
        SameLetters x = new SameLetters();
        Check.typed(x, " ".repeat(200));
        Check.due("2: n 0 of a full text", x.type(32, 0), BAD);
        Check.due("2: n 9 of a full text", x.type(32, 9), BAD);
        Check.due("2: n -1 of a full text", x.type(32, -1), BAD);
        Check.due("2: n most of a full text", x.type(32, Integer.MAX_VALUE), BAD);
        Check.due("2: n 8 of a full text", x.type(32, 8), FULL);
    }

    // ---- promise 3

    /** "how many bytes it had": none, one, all. */
    private static void clearTellsHowManyThereWere() {
        for (int bytes : new int[] {0, 1, 8, 9, 199, 200}) {
            SameLetters x = new SameLetters();
            Check.typed(x, " ".repeat(bytes));
            Check.due("3: of " + bytes, x.clear(), bytes);
            Check.due("3: behind " + bytes, x.count(3), 0);
            Check.due("3: twice behind " + bytes, x.clear(), 0);
        }
    }

    /** "THE TEXT is empty". */
    private static void clearedTextIsGone() {
        SameLetters x = new SameLetters();
        Check.typed(x, "~".repeat(200));
        x.clear();
        Check.due("3: type has room anew", Check.typed(x, " ".repeat(200)), 200);
        Check.due("3: nothing of the old text is read", x.tongue(), 0);
        Check.typed(x, "shape 00");
        x.clear();
        Check.typed(x, "shape 0");
        Check.due("3: nothing behind the text is read", x.tongue(), -10 - 7);
    }

    // ---- promise 4: items and blanks

    /** "ITEMS (none, too)". */
    private static void textMayHaveNoItems() {
        for (int blanks : new int[] {0, 1, 8, 200}) {
            SameLetters x = Check.told(" ".repeat(blanks), 0);
            Check.due("4: no words of blanks", x.count(0), 0);
            Check.due("4: no shapes of blanks", x.count(1), 0);
        }
        Check.told("shape 0;", 1);
        Check.told("word a 0 0 0;", 1);
        Check.told(NINE_WORDS, 9);
        Check.told(FOUR_SHAPES, 4);
        Check.told(NINE_WORDS + FOUR_SHAPES, 13);
    }

    /** "each ended by ;". */
    private static void itemsAreEndedBySemicolons() {
        Check.fault("shape 0 shape 0;", 8);
        Check.fault("shape 0 word a 0 0 0;", 8);
        Check.fault("word a 0 0 0 shape 0;", 13);
        Check.fault("word a 0 0 0 word a 0 0 0;", 13);
        Check.fault("shape 0 0 0 shape 0;", 12);
        Check.fault("shape 0;;", 8);
        Check.fault("word a 0 0 0;;", 13);
        Check.fault(";", 0);
        Check.fault("shape 0", 7);
        Check.fault("word a 0 0 0", 12);
    }

    /** "blanks (32)": no other byte is one. */
    private static void blanksAreThirtyTwoAlone() {
        char[] others = {0, 1, 8, 9, 10, 11, 12, 13, 28, 31, 33, 95, 127, 133, 160, 255};
        for (char other : others) {
            Check.fault(other + "shape 0;", 0);
            Check.fault("shape" + other + "0;", 5);
            Check.fault("shape 0" + other + "0;", 7);
            Check.fault("shape 0;" + other, 8);
            Check.fault("word" + other + "a 0 0 0;", 4);
            Check.fault("word a 0 0 0" + other + ";", 12);
        }
    }

    /** "blanks, any number, ahead of, between, behind TOKENS". */
    private static void blanksMayBeAnyNumber() {
        String[] tokens = {"word", "ab", "1", "2", "3", ";", "shape", "1", "0", ";"};
        for (int place = 0; place <= tokens.length; place++) {
            for (int blanks : new int[] {2, 3, 160}) {
                StringBuilder text = new StringBuilder();
                for (int i = 0; i <= tokens.length; i++) {
                    text.append(i == place ? " ".repeat(blanks) : i == 0 || i == tokens.length ? "" : " ");
                    text.append(i < tokens.length ? tokens[i] : "");
                }
                SameLetters x = Check.told(text.toString(), 2);
                Check.due("4: own behind blanks at " + place, x.word(0, 2), 2);
                Check.due("4: kind behind blanks at " + place, x.shape(0, 1), 0);
            }
        }
    }

    /** "(needed only between two rows of letters, two NUMBERS)". */
    private static void blanksAreNeededBetweenLikeTokensAlone() {
        SameLetters x = Check.told("shape2 1;word ab1 2 3;shape0;word c0 9 8;", 4);
        Check.due("4: kind behind a row of letters", x.shape(0, 0), 2);
        Check.due("4: kind behind signs", x.word(0, 1), 1);
        Check.due("4: own", x.word(0, 2), 2);
        Check.due("4: other ahead of ;", x.word(0, 3), 3);
        Check.fault("worda 0 0 0;", 0);
        Check.fault("wordab0 0 0;", 0);
        Check.fault("shape 01;", 6);
        Check.fault("shape 10;", 6);
        Check.fault("word a00 0;", 6);
        Check.fault("word a 0 00;", 9);
        Check.fault("word a 0 99;", 9);
        Check.fault("word ab cd 0 0 0;", 8);
    }

    // ---- promise 4: words

    /** "WORDS 0 .. (9 at most)"; FAULT: "a tenth word". */
    private static void nineWordsAtMost() {
        SameLetters x = Check.told(NINE_WORDS, 9);
        Check.due("4: nine are there", x.count(0), 9);
        Check.due("4: the ninth is there", x.word(8, 0), 1);
        Check.due("4: there is no tenth", x.word(9, 0), BAD);
        Check.fault(NINE_WORDS + "word a 0 0 0;", 117);
        Check.fault(NINE_WORDS + "word", 117);
        Check.fault(NINE_WORDS + "  word ~", 119);
        Check.fault("shape 0;" + NINE_WORDS + "shape 0;word a 0 0 0;", 133);
        Check.fault(NINE_WORDS + FOUR_SHAPES + "word a 0 0 0;", 149);
        Check.typed(x, NINE_WORDS);
        Check.due("4: nine of another text", x.tongue(), 9);
    }

    /** "spelled by 1 to 5 SIGNS". */
    private static void oneToFiveSigns() {
        Check.fault("word 0 0 0;", 5);
        for (int signs = 1; signs <= 5; signs++) {
            SameLetters x = Check.told("word " + "abcde".substring(0, signs) + " 0 0 0;", 1);
            Check.due("4: signs", x.word(0, 0), signs);
            Check.due("4: the last sign", x.spell(0, signs - 1), signs - 1);
        }
        Check.fault("word abcdef 0 0 0;", 5);
        Check.fault("word aaaaaa 0 0 0;", 5);
        Check.fault("word abcdefgh 0 0 0;", 5);
        Check.fault("word " + "a".repeat(195), 5);
    }

    /** "SIGNS are a .. h"; "S: 1 to 5 letters a .. h". */
    private static void signsAreAToH() {
        for (char letter = 'a'; letter <= 'z'; letter++) {
            if (letter <= 'h') {
                SameLetters x = Check.told("word " + letter + " 0 0 0;", 1);
                Check.due("4: sign " + letter, x.spell(0, 0), letter - 'a');
            } else {
                Check.fault("word " + letter + " 0 0 0;", 5);
                Check.fault("word a" + letter + "a 0 0 0;", 5);
                Check.fault("word abcd" + letter + " 0 0 0;", 5);
            }
        }
        for (char beside : new char[] {'`', '{', '@', 'A', 'H', 'Z', 'a' + 128}) {
            Check.fault("word " + beside + " 0 0 0;", 5);
            Check.fault("word a" + beside + " 0 0 0;", 6);
        }
    }

    /** "word S K W V": not fewer, not more, not in another order. */
    private static void wordNeedsAllItsParts() {
        Check.fault("word;", 4);
        Check.fault("word a;", 6);
        Check.fault("word a 0;", 8);
        Check.fault("word a 0 0;", 10);
        Check.told("word a 0 0 0;", 1);
        Check.fault("word a 0 0 0 0;", 13);
        Check.fault("word a 0 0 0 a;", 13);
        Check.fault("word 0 a 0 0;", 5);
        Check.fault("word word 0 0 0;", 5);
        Check.fault("word shape 0 0 0;", 5);
        Check.fault("word a word 0 0;", 7);
        Check.fault("word a 0 b 0;", 9);
        Check.fault("word a 0 0 b;", 11);
    }

    /** "a KIND (0 .. 2)"; "a NUMBER beyond what it may be, too". */
    private static void kindIsNoughtToTwo() {
        for (int kind = 0; kind <= 2; kind++) {
            Check.due("4: kind " + kind, Check.told("word a " + kind + " 0 0;", 1).word(0, 1), kind);
            Check.due("4: kind of a shape " + kind, Check.told("shape " + kind + ";", 1).shape(0, 0), kind);
        }
        for (int kind : new int[] {3, 4, 9, 10, 99, 100}) {
            Check.fault("word a " + kind + " 0 0;", 7);
            Check.fault("shape " + kind + ";", 6);
            Check.fault("shape 2 " + kind + ";", 8);
            Check.fault("shape 2 2 " + kind + ";", 10);
        }
    }

    /** "OWN (0 .. 9)". */
    private static void ownIsNoughtToNine() {
        for (int own = 0; own <= 9; own++) {
            Check.due("4: own " + own, Check.told("word a 0 " + own + " 0;", 1).word(0, 2), own);
        }
        for (int own : new int[] {10, 11, 90, 99, 100}) {
            Check.fault("word a 0 " + own + " 0;", 9);
        }
    }

    /** "OTHER (0 .. 9)". */
    private static void otherIsNoughtToNine() {
        for (int other = 0; other <= 9; other++) {
            Check.due("4: other " + other, Check.told("word a 0 0 " + other + ";", 1).word(0, 3), other);
        }
        for (int other : new int[] {10, 11, 90, 99, 100}) {
            Check.fault("word a 0 0 " + other + ";", 11);
        }
    }

    // ---- promise 4: shapes

    /** "SHAPES 0 .. (4 at most)"; FAULT: "a fifth shape". */
    private static void fourShapesAtMost() {
        SameLetters x = Check.told(FOUR_SHAPES, 4);
        Check.due("4: four are there", x.count(1), 4);
        Check.due("4: the fourth is there", x.shape(3, 0), 0);
        Check.due("4: there is no fifth", x.shape(4, 0), BAD);
        Check.fault(FOUR_SHAPES + "shape 0;", 32);
        Check.fault(FOUR_SHAPES + "shape", 32);
        Check.fault(FOUR_SHAPES + "  shape ~", 34);
        Check.fault("shape 0;word a 0 0 0;shape 0;shape 0;shape 0;word a 0 0 0;shape 0;", 58);
        Check.fault(NINE_WORDS + FOUR_SHAPES + "shape 0;", 149);
        Check.typed(x, FOUR_SHAPES);
        Check.due("4: four of another text", x.tongue(), 4);
    }

    /** "1 to 3 KINDS one behind another"; FAULT: "a fourth KIND". */
    private static void oneToThreeKinds() {
        Check.fault("shape;", 5);
        String[] rows = {"2", "2 1", "2 1 0"};
        for (int kinds = 1; kinds <= 3; kinds++) {
            SameLetters x = Check.told("shape " + rows[kinds - 1] + ";", 1);
            Check.due("4: the last kind", x.shape(0, kinds - 1), 3 - kinds);
            Check.due("4: no kind behind " + kinds, x.shape(0, kinds), NOT_SO_MANY);
        }
        Check.fault("shape 2 1 0 0;", 12);
        Check.fault("shape 2 1 0 3;", 12);
        Check.fault("shape a;", 6);
        Check.fault("shape 2 a;", 8);
        Check.fault("shape 2 1 a;", 10);
        Check.fault("shape 2 1 0 a;", 12);
    }

    // ---- promise 4: faults of bytes and tokens

    /** "of a byte that begins none"; no token but word and shape can stand ahead of an item. */
    private static void everyByteAheadOfAnItem() {
        for (char b = 0; b < 256; b++) {
            if (b == ' ') {
                Check.told("shape 0;" + b, 1);
                Check.told(b + "shape 0;", 1);
            } else {
                Check.fault("shape 0;" + b, 8);
                Check.fault("" + b, 0);
                Check.fault(" " + b + " shape 0;", 1);
            }
        }
    }

    /** "of a byte that begins none, ... that TOKEN's": behind a number that stands. */
    private static void everyByteBehindANumber() {
        for (char b = 0; b < 256; b++) {
            if (b == ' ') {
                Check.told("shape 0" + b + ";", 1);
            } else if (b == ';') {
                Check.fault("shape 0" + b + ";", 8);
            } else if (b >= '0' && b <= '9') {
                Check.fault("shape 0" + b + ";", 6);
            } else {
                Check.fault("shape 0" + b + ";", 7);
            }
        }
    }

    /** "of a byte that begins none, a word of letters that is none of these, ... that TOKEN's": behind signs. */
    private static void everyByteBehindSigns() {
        for (char b = 0; b < 256; b++) {
            if (b == ' ' || b >= 'a' && b <= 'h') {
                Check.told("word ab" + b + "1 1 1;", 1);
            } else if (b >= 'i' && b <= 'z') {
                Check.fault("word ab" + b + "1 1 1;", 5);
            } else if (b >= '0' && b <= '2') {
                Check.told("word ab" + b + " 1 1;", 1);
            } else {
                Check.fault("word ab" + b + " 1 1;", 7);
            }
        }
    }

    /** "a word of letters that is none of these". */
    private static void wordsOfLettersThatAreNoneOfThese() {
        String[] none = {"w", "wo", "wor", "words", "wword", "worda", "wort", "bord", "ward", "wold", "s", "shap",
            "shapes", "shapeshape", "thape", "sxape", "shxpe", "shaxe", "shapx", "wordshape", "z", "abcdef", "i",
            "abi"};
        for (String row : none) {
            Check.fault(row + " a 0 0 0;", 0);
            Check.fault("shape 0; " + row + " 0;", 9);
            Check.fault("word " + row + " 0 0 0;", 5);
            Check.fault("word a " + row + " 0 0;", 7);
            Check.fault("word a 0 0 0 " + row, 13);
        }
        // Signs can't stand where an item begins, nor words of items where signs are due.
        Check.fault("a 0 0 0;", 0);
        Check.fault("Word a 0 0 0;", 0);
        Check.fault("wOrd a 0 0 0;", 0);
        Check.fault("SHAPE 0;", 0);
    }

    /** "a NUMBER above 99": however many figures, none wraps around to one that may stand. */
    private static void numbersAboveNinetyNine() {
        String[] above = {"100", "101", "110", "255", "256", "257", "512", "999", "1000", "1024", "65536", "65537",
            "2147483647", "2147483648", "4294967295", "4294967296", "4294967297", "4294967298",
            "9223372036854775807", "18446744073709551616", "18446744073709551617", "1" + "0".repeat(32),
            "1" + "0".repeat(185), "9".repeat(180)};
        for (String number : above) {
            Check.fault("word a 0 0 " + number, 11);
            Check.fault("word a 0 " + number, 9);
            Check.fault("word a " + number, 7);
            Check.fault("shape " + number, 6);
            Check.fault("shape 0 " + number, 8);
            Check.fault(number, 0);
        }
    }

    /** "or with a 0 ahead of others". */
    private static void numbersWithANoughtAhead() {
        String[] ahead = {"00", "01", "02", "09", "000", "001", "010", "0100", "0".repeat(180)};
        for (String number : ahead) {
            Check.fault("word a 0 0 " + number, 11);
            Check.fault("word a 0 " + number, 9);
            Check.fault("word a " + number, 7);
            Check.fault("shape " + number, 6);
            Check.fault("shape 1 " + number, 8);
            Check.fault("shape 1 2 " + number, 10);
        }
        Check.told("word a 0 0 0;shape 0 0 0;", 2);
    }

    /** "the text's length, if it ends too early": behind each token of an item, blanks there, too. */
    private static void textEndsTooEarly() {
        String[][] items = {{"word", " ab", " 0", " 1", " 2"}, {"shape", " 0", " 1", " 2"}};
        for (String[] item : items) {
            StringBuilder text = new StringBuilder();
            for (String token : item) {
                text.append(token);
                Check.fault(text.toString(), text.length());
                Check.fault(text + " ", text.length() + 1);
                Check.fault("shape 0; " + text, text.length() + 9);
                Check.fault(" ".repeat(200 - text.length()) + text, 200);
                Check.fault(text + " ".repeat(200 - text.length()), 200);
            }
        }
    }

    /** "the first TOKEN that can't stand there". */
    private static void faultIsTheFirstOne() {
        Check.fault("shape 3 ~;", 6);
        Check.fault("shape 0;shape ~;shape 3;", 14);
        Check.fault("word abi 9 99 100;", 5);
        Check.fault("word a 3 ~;", 7);
        Check.fault("word a 0 10 01;", 9);
        Check.fault("shape 0 0 0 0 0;", 12);
        Check.fault("~~", 0);
        Check.fault(NINE_WORDS + "word abi ~;", 117);
        Check.fault(FOUR_SHAPES + "shape 9;", 32);
    }

    /** "-10 less FAULT": at the first byte, the last byte, behind the last byte. */
    private static void faultsAtTheEndsOfTheText() {
        Check.fault("~" + " ".repeat(199), 0);
        Check.fault(" ".repeat(199) + "~", 199);
        Check.fault(" ".repeat(199) + "0", 199);
        Check.fault(" ".repeat(198) + "ab", 198);
        Check.fault(" ".repeat(192) + "shape 3;", 198);
        Check.fault(" ".repeat(192) + "shape 00", 198);
        Check.fault(" ".repeat(192) + "shape 0 ", 200);
        Check.fault(" ".repeat(195) + "shape", 200);
        Check.fault(" ".repeat(196) + "word", 200);
        Check.told(" ".repeat(192) + "shape 2;", 1);
        Check.told(" ".repeat(187) + "word a 2 9 9;", 1);
    }

    // ---- promise 4: what is told anew, what is not

    /** "THE TEXT stays, too": more can be typed, and it is read from its start. */
    private static void faultyTextCanBeWrittenOn() {
        SameLetters x = new SameLetters();
        String[] rows = {"wor", "d", " a", "b 1", " 2", " ", "3", " ", ";"};
        int[] due = {-10, -10 - 4, -10 - 6, -10 - 9, -10 - 11, -10 - 12, -10 - 13, -10 - 14, 1};
        for (int i = 0; i < rows.length; i++) {
            Check.typed(x, rows[i]);
            Check.due("4: with row " + i, x.tongue(), due[i]);
        }
        Check.due("4: signs", x.word(0, 0), 2);
        Check.due("4: other", x.word(0, 3), 3);
        Check.due("4: the text is empty", x.count(3), 0);
    }

    /** "THE TEXT tells all anew, and is empty then". */
    private static void tongueEmptiesTheText() {
        SameLetters x = new SameLetters();
        Check.typed(x, NINE_WORDS + FOUR_SHAPES + " ".repeat(51));
        Check.due("4: of 200 bytes", x.tongue(), 13);
        Check.due("4: no bytes are left", x.count(3), 0);
        Check.due("4: none to clear", x.clear(), 0);
        Check.due("4: room for 200", Check.typed(x, FOUR_SHAPES + " ".repeat(168)), 200);
        Check.due("4: the next text", x.tongue(), 4);
    }

    /** "tells all anew": words, shapes and letters of the tongue ahead are gone. */
    private static void tongueTellsAllAnew() {
        SameLetters x = Check.told("word abcde 0 9 9;word b 1 1 1;shape 0 0 0;shape 1;", 4);
        Check.due("4: letters ahead", x.says(-1), 2);
        Check.typed(x, "shape 2;word h 2 0 0;");
        Check.due("4: anew", x.tongue(), 2);
        Check.due("4: signs anew", x.word(0, 0), 1);
        Check.due("4: no old sign", x.spell(0, 1), NOT_SO_MANY);
        Check.due("4: no second word", x.word(1, 0), BAD);
        Check.due("4: a kind anew", x.shape(0, 0), 2);
        Check.due("4: no old kind", x.shape(0, 1), NOT_SO_MANY);
        Check.due("4: no second shape", x.shape(1, 0), BAD);
        Check.due("4: letters anew", x.says(-1), 1);
        Check.due("4: no old letter", x.letter(111, 0), BAD);
        Check.due("4: signs of the letter anew", x.has(1, 7), 1);
        Check.due("4: no old signs of the letter", x.has(1, 0), 0);
        Check.due("4: alphabet anew", x.alphabet(1, 0), 128);
    }

    /** "tells all anew": no letter is answered by one of the tongue ahead. */
    private static void tongueTellsAnswersAnew() {
        SameLetters x = Check.told("word ab 0 1 2;word ba 0 3 4;word ab 0 2 9;shape 0;", 4);
        Check.due("4: answered at first", x.chain(1, 1), 2);
        Check.typed(x, "word ab 0 5 5;word c 0 1 1;shape 0;");
        Check.due("4: without answers", x.tongue(), 3);
        Check.due("4: all are mute", x.mute(0), 2);
        Check.due("4: the first is", x.mute(1), 1);
        Check.due("4: none is best", x.best(0), NONE);
        Check.due("4: none answers", x.answers(1, 0, 0), 0);
        Check.due("4: the chain ends", x.chain(1, 1), NONE);
        Check.due("4: there is no ring", x.ring(1), NONE);
        Check.typed(x, "word c 0 1 1;word ab 0 1 1;word ba 0 0 7;shape 0;");
        Check.due("4: with answers", x.tongue(), 4);
        Check.due("4: one is mute", x.mute(0), 1);
        Check.due("4: the best one", x.best(0), 2);
        Check.due("4: its other", x.best(1), 7);
        Check.due("4: the chain goes on", x.chain(2, 1), 3);
        Check.due("4: the chain comes back", x.chain(3, 1), 2);
        Check.due("4: there is a ring", x.ring(3), 2);
    }

    /** "ITEMS (none, too)": an empty text tells that there are no words, no shapes. */
    private static void tongueTellsNothingAnew() {
        SameLetters x = Check.told("word a 0 9 9;shape 0;", 2);
        x.write(1);
        Check.due("4: an empty text", x.tongue(), 0);
        Check.due("4: no words", x.count(0), 0);
        Check.due("4: no shapes", x.count(1), 0);
        Check.due("4: no letters", x.says(-1), 0);
        Check.due("4: none was written", x.count(2), 0);
        Check.due("4: no letter 1", x.write(1), BAD);
    }

    private static SameLetters anew(String text) {
        SameLetters x = Check.told("word ab 0 1 2;word ba 0 3 4;shape 0;", 3);
        x.keep(0);
        x.write(1);
        x.write(2);
        x.keep(1);
        x.rate(5, 0);
        Check.typed(x, text);
        x.tongue();
        return x;
    }

    /** "Read anew: none was written". */
    private static void anewNoneWasWritten() {
        SameLetters x = anew("word ab 0 1 2;word ba 0 3 4;shape 0;");
        Check.due("4: none was written", x.count(2), 0);
        Check.due("4: not the first", x.wrote(0), NOT_SO_MANY);
        Check.due("4: side 0 has nothing", x.side(0), 0);
        Check.due("4: side 1 has nothing", x.side(1), 0);
        Check.due("4: a threat was never written", x.rate(5, 0), 1);
        Check.due("4: the first letter is any one", x.write(2), 1);
        Check.due("4: side 0 is first again", x.side(0), 3);
    }

    /** "IMAGES are gone". */
    private static void anewImagesAreGone() {
        SameLetters x = anew("word ab 0 1 2;word ba 0 3 4;shape 0;");
        Check.due("4: image 0 is gone", x.back(0), STATE);
        Check.due("4: image 1 is gone", x.back(1), STATE);
        Check.due("4: image 1 is kept anew", x.keep(1), 0);
        Check.due("4: image 0 is gone yet", x.back(0), STATE);
        Check.due("4: image 1 is there", x.back(1), 0);
    }

    /** "nothing can be UNDONE". */
    private static void anewNothingCanBeUndone() {
        SameLetters x = anew("word ab 0 1 2;word ba 0 3 4;shape 0;");
        Check.due("4: nothing to undo", x.undo(), STATE);
        x.write(1);
        Check.due("4: the new one is undone", x.undo(), 0);
        Check.due("4: nothing behind it", x.undo(), STATE);
    }

    /** "THE TRACE goes on". */
    private static void anewTheTraceGoesOn() {
        SameLetters x = anew("word ab 0 1 2;word ba 0 3 4;shape 0;");
        Check.due("4: the trace", x.trace(), 100001);
        x.rate(0, 1);
        Check.due("4: the trace goes on", x.trace(), 100002);
        x.tongue();
        Check.due("4: the trace of no words", x.trace(), 100002);
    }

    /** "-10 less FAULT: nothing changes". */
    private static void behindAFaultAllGoesOn() {
        SameLetters x = anew("word h 2 9 9;shape 2;shape 2 2 3;");
        Check.due("4: a fault", x.tongue(), -10 - 31);
        Check.due("4: two words", x.count(0), 2);
        Check.due("4: one shape", x.count(1), 1);
        Check.due("4: its kind", x.shape(0, 0), 0);
        Check.due("4: its signs", x.spell(0, 0), 0);
        Check.due("4: its letters", x.says(-1), 2);
        Check.due("4: two were written", x.count(2), 2);
        Check.due("4: one can be undone", x.undo(), 1);
        Check.due("4: image 1", x.back(1), 2);
        Check.due("4: image 0", x.back(0), 0);
        Check.due("4: the text", x.clear(), 33);
    }
}
