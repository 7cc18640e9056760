/** Each promise: ordinary inputs, the edges that the document names, wrong inputs. */
public final class PromisesTest {
    private static final int BAD = -1, STATE = -2, FULL = -3, NONE = -9, NO = -1000000, NOT_SO_MANY = -5;

    // Words 1 .. 9; letters: any one of kind 0, of kind 1, kind 0 behind kind 1, two of kind 0.
    // dad 012, add 052, fad 140, daf 113, cab 1 8 8, be 2 9 9
    private static final String SMALL =
            "word dad 0 1 2;word add 0 5 2;word fad 1 4 0;word daf 1 1 3;word cab 1 8 8;word be 2 9 9;"
            + "shape 0;shape 1 0;shape 0 0;";

    public static void main(String[] args) {
        constants();
        newObject();
        type();
        clear();
        tongueReads();
        tongueTellsAnew();
        faultsOfWords();
        faultsOfShapes();
        faultsOfTokens();
        faultsChangeNothing();
        word();
        spell();
        shape();
        letter();
        has();
        write();
        undo();
        wrote();
        side();
        says();
        answers();
        slack();
        mute();
        best();
        bar();
        chain();
        ring();
        alphabet();
        asked();
        rate();
        threat();
        keepAndBack();
        count();
        trace();
        fullTongue();
        ties();
        anew();
        firstLetterAnswers();
        bytesBehindTheText();
        imageOfTwelve();
        Check.end();
    }

    private static SameLetters small() {
        return Check.told(SMALL, 9);
    }

    private static void constants() {
        Check.due("BAD", SameLetters.BAD, -1);
        Check.due("STATE", SameLetters.STATE, -2);
        Check.due("FULL", SameLetters.FULL, -3);
        Check.due("NONE", SameLetters.NONE, -9);
        Check.due("NO", SameLetters.NO, -1000000);
    }

    private static void newObject() {
        SameLetters x = new SameLetters();
        for (int what = 0; what < 4; what++) {
            Check.due("1: count(" + what + ")", x.count(what), 0);
        }
        Check.due("1: word(0, 0)", x.word(0, 0), BAD);
        Check.due("1: shape(0, 0)", x.shape(0, 0), BAD);
        Check.due("1: says(-1)", x.says(-1), 0);
        Check.due("1: says(-2)", x.says(-2), NONE);
        Check.due("1: mute(1)", x.mute(1), NONE);
        Check.due("1: best(0)", x.best(0), NONE);
        Check.due("1: best(1)", x.best(1), NONE);
        Check.due("1: side(0)", x.side(0), 0);
        Check.due("1: back(0)", x.back(0), STATE);
        Check.due("1: back(1)", x.back(1), STATE);
        Check.due("1: trace()", x.trace(), 0);
        Check.due("1: letter(0, 0)", x.letter(0, 0), BAD);
        Check.due("1: clear()", x.clear(), 0);
        Check.due("1: alphabet(4, 0)", x.alphabet(4, 0), 15);
    }

    private static void type() {
        SameLetters x = new SameLetters();
        Check.due("2: n 0", x.type('a', 0), BAD);
        Check.due("2: n 9", x.type('a', 9), BAD);
        Check.due("2: n -1", x.type('a', -1), BAD);
        Check.due("2: n least", x.type('a', Integer.MIN_VALUE), BAD);
        Check.due("2: n most", x.type('a', Integer.MAX_VALUE), BAD);
        Check.due("2: nothing changed", x.count(3), 0);
        Check.due("2: lowest two of five", x.type(0x7878787368L, 2), 2);
        Check.due("2: three", x.type(0xffffffffff617065L, 3), 5);
        Check.due("2: with the highest bit of eight", x.type(0x2030203b20202080L, 8), 13);
        Check.due("2: the highest byte was first", x.tongue(), -10 - 12);
        x.clear();
        for (int i = 1; i <= 24; i++) {
            Check.due("2: eights", x.type(0x2020202020202020L, 8), 8 * i);
        }
        Check.due("2: 192 and 7", x.type(0x20202020202020L, 7), 199);
        Check.due("2: 199 and 2", x.type(0x2020, 2), FULL);
        Check.due("2: BAD ahead of FULL", x.type(0x2020, 9), BAD);
        Check.due("2: 199 and 1", x.type(0x20, 1), 200);
        Check.due("2: 200 and 1", x.type(0x20, 1), FULL);
        Check.due("2: 200 are held", x.count(3), 200);
        Check.due("2: 200 blanks", x.tongue(), 0);
    }

    private static void clear() {
        SameLetters x = small();
        Check.due("3: empty", x.clear(), 0);
        Check.typed(x, "word a");
        Check.due("3: six", x.clear(), 6);
        Check.due("3: empty again", x.clear(), 0);
        Check.due("3: no bytes are left", x.count(3), 0);
        Check.due("3: the words stay", x.count(0), 6);
        Check.typed(x, "shape 2;");
        Check.due("3: the text starts anew", x.tongue(), 1);
    }

    private static void tongueReads() {
        Check.told("", 0);
        Check.told("     ", 0);
        Check.told("   shape   0   ;   ", 1);
        Check.told("shape 0;", 1);
        Check.told("shape2;", 1);
        SameLetters x = Check.told("shape 0 1;word deadh2 9 8;word a0 0 0;shape 2 2 2;", 4);
        Check.due("4: without blanks: words", x.count(0), 2);
        Check.due("4: without blanks: shapes", x.count(1), 2);
        Check.due("4: without blanks: kind", x.word(0, 1), 2);
        Check.due("4: without blanks: signs", x.word(0, 0), 5);
        Check.due("4: the text is empty then", x.count(3), 0);
        String nine = "word a 0 0 0;word a 0 0 0;word a 0 0 0;word a 0 0 0;word a 0 0 0;"
                + "word a 0 0 0;word a 0 0 0;word a 0 0 0;word a 0 0 0;";
        x = Check.told(nine + "shape 0;shape 0;shape 0;shape 0 0;", 13);
        Check.due("4: nine words", x.count(0), 9);
        Check.due("4: four shapes", x.count(1), 4);
        fault(nine + "shape 0;word a 0 0 0;shape 0;", 117 + 8);
        fault(nine + "word", 117);
    }

    private static void tongueTellsAnew() {
        SameLetters x = small();
        x.write(11);
        x.keep(0);
        x.rate(3, 0);
        Check.typed(x, "word h 0 3 4; shape 0; shape 0 0;");
        Check.due("4: anew", x.tongue(), 3);
        Check.due("4: words anew", x.count(0), 1);
        Check.due("4: word 1 is gone", x.word(1, 0), BAD);
        Check.due("4: shapes anew", x.count(1), 2);
        Check.due("4: letters anew", x.says(-1), 2);
        Check.due("4: most anew", x.says(-2), 6);
        Check.due("4: none was written", x.count(2), 0);
        Check.due("4: nothing to undo", x.undo(), STATE);
        Check.due("4: the image is gone", x.back(0), STATE);
        Check.due("4: the trace goes on", x.trace(), 1011);
        Check.due("4: the first letter is any", x.write(1), 1);
        Check.due("4: of an empty text", x.tongue(), 0);
        Check.due("4: no words", x.count(0), 0);
        Check.due("4: no shapes", x.count(1), 0);
        Check.due("4: no letters", x.says(-1), 0);
        Check.due("4: no letter was written", x.wrote(0), NOT_SO_MANY);
    }

    private static void fault(String text, int place) {
        SameLetters x = new SameLetters();
        Check.typed(x, text);
        Check.due("4: tongue() of «" + text + "»", x.tongue(), -10 - place);
        Check.due("4: the text stays: «" + text + "»", x.count(3), text.length());
    }

    private static void faultsOfWords() {
        fault("word", 4);
        fault("word  ", 6);
        fault("word a", 6);
        fault("word a 0 0 0", 12);
        fault("word a 0 0 0   ", 15);
        fault("word ;", 5);
        fault("word 1 0 0 0;", 5);
        fault("word shape 0 0 0;", 5);
        fault("word abcdef 0 0 0;", 5);
        fault("word abi 0 0 0;", 5);
        fault("word a b 0 0;", 7);
        fault("word a 3 0 0;", 7);
        fault("word a 0 10 0;", 9);
        fault("word a 0 0 10;", 11);
        fault("word a 0 0;", 10);
        fault("word a 0 0 0 0;", 13);
        fault("word a 0 0 0 word b 0 0 0;", 13);
        fault("word a 00 0 0;", 7);
        fault("word a 0 01 0;", 9);
    }

    private static void faultsOfShapes() {
        fault("shape", 5);
        fault("shape;", 5);
        fault("shape ;", 6);
        fault("shape 3;", 6);
        fault("shape 0 3;", 8);
        fault("shape 0 0 3;", 10);
        fault("shape a;", 6);
        fault("shape 0 0 0 0;", 12);
        fault("shape 0 0 0", 11);
        fault("shape 0 0 0 ", 12);
        fault("shape 00;", 6);
        fault("shape 000000000000000000000000000000;", 6);
        fault("shape 4294967296;", 6);
        fault("shape 18446744073709551616;", 6);
        fault("shape 012;", 6);
        fault("shape 0;shape 1;shape 2;shape 0 0;  shape 0 1;", 36);
    }

    private static void faultsOfTokens() {
        fault(";", 0);
        fault("  ;", 2);
        fault("0", 0);
        fault("a 0 0 0;", 0);
        fault("words a 0 0 0;", 0);
        fault("bord a 0 0 0;", 0);
        fault("worda 0 0 0;", 0);
        fault("shapes 0;", 0);
        fault("shap 0;", 0);
        fault("shape 0;;", 8);
        fault("shape 0; x", 9);
        fault("Shape 0;", 0);
        fault("shape 0,;", 7);
        fault("shape 0\n;", 7);
        fault("shape\t0;", 5);
        fault("shape -1;", 6);
        fault("shape 0; ~ word ;", 9);
        fault("shape 0;" + (char) 255, 8);
        fault("shape 0" + (char) 0 + ";", 7);
        fault("shape" + (char) 160 + "0;", 5);
        fault("shape `0;", 6);
        fault("word {a 0 0 0;", 5);
        fault("shape 0;word a 0 0 0;shape 1 1 ", 31);
    }

    private static void faultsChangeNothing() {
        SameLetters x = small();
        x.write(11);
        x.keep(1);
        Check.typed(x, "word h 2 9 9;shape 2;shape 4;");
        Check.due("4: a fault", x.tongue(), -10 - 27);
        Check.due("4: words as before", x.count(0), 6);
        Check.due("4: shapes as before", x.count(1), 3);
        Check.due("4: signs as before", x.spell(0, 0), 3);
        Check.due("4: kind as before", x.shape(0, 0), 0);
        Check.due("4: letters as before", x.says(-1), 12);
        Check.due("4: written as before", x.count(2), 1);
        Check.due("4: the image stays", x.back(1), 1);
        Check.due("4: the text stays", x.clear(), 29);
    }

    private static void word() {
        SameLetters x = small();
        int[][] told = {{3, 0, 1, 2}, {3, 0, 5, 2}, {3, 1, 4, 0}, {3, 1, 1, 3}, {3, 1, 8, 8}, {2, 2, 9, 9}};
        for (int w = 0; w < told.length; w++) {
            for (int what = 0; what < 4; what++) {
                Check.due("5: word(" + w + ", " + what + ")", x.word(w, what), told[w][what]);
            }
        }
        Check.due("5: w -1", x.word(-1, 0), BAD);
        Check.due("5: w 6", x.word(6, 0), BAD);
        Check.due("5: w 9", x.word(9, 0), BAD);
        Check.due("5: w most", x.word(Integer.MAX_VALUE, 0), BAD);
        Check.due("5: w least", x.word(Integer.MIN_VALUE, 0), BAD);
        Check.due("5: what -1", x.word(0, -1), BAD);
        Check.due("5: what 4", x.word(0, 4), BAD);
    }

    private static void spell() {
        SameLetters x = Check.told("word hagf 0 0 0;word abcde 0 0 0;", 2);
        int[] first = {7, 0, 6, 5, NOT_SO_MANY, NOT_SO_MANY};
        int[] second = {0, 1, 2, 3, 4, NOT_SO_MANY};
        for (int i = 0; i < first.length; i++) {
            Check.due("6: spell(0, " + i + ")", x.spell(0, i), first[i]);
            Check.due("6: spell(1, " + i + ")", x.spell(1, i), second[i]);
        }
        Check.due("6: i most", x.spell(0, Integer.MAX_VALUE), NOT_SO_MANY);
        Check.due("6: i -1", x.spell(0, -1), BAD);
        Check.due("6: w -1", x.spell(-1, 0), BAD);
        Check.due("6: w 2", x.spell(2, 0), BAD);
        Check.due("6: w 2, not so many", x.spell(2, 7), BAD);
    }

    private static void shape() {
        SameLetters x = Check.told("shape 2 0 1;shape 1;", 2);
        int[] first = {2, 0, 1, NOT_SO_MANY, NOT_SO_MANY};
        int[] second = {1, NOT_SO_MANY, NOT_SO_MANY, NOT_SO_MANY, NOT_SO_MANY};
        for (int i = 0; i < first.length; i++) {
            Check.due("7: shape(0, " + i + ")", x.shape(0, i), first[i]);
            Check.due("7: shape(1, " + i + ")", x.shape(1, i), second[i]);
        }
        Check.due("7: i most", x.shape(1, Integer.MAX_VALUE), NOT_SO_MANY);
        Check.due("7: i -1", x.shape(0, -1), BAD);
        Check.due("7: s -1", x.shape(-1, 0), BAD);
        Check.due("7: s 2", x.shape(2, 0), BAD);
        Check.due("7: s 4", x.shape(4, 9), BAD);
    }

    private static void letter() {
        SameLetters x = small();
        Check.due("8: own of one", x.letter(2, 0), 5);
        Check.due("8: other of one", x.letter(2, 1), 2);
        Check.due("8: signs of one", x.letter(2, 2), 3);
        Check.due("8: own of two", x.letter(51, 0), 9);
        Check.due("8: other of two", x.letter(51, 1), 10);
        Check.due("8: signs of two", x.letter(51, 2), 6);
        Check.due("8: the like twice", x.letter(22, 0), 10);
        Check.due("8: signs of the like twice", x.letter(22, 2), 6);
        int[] none = {0, -1, 3, 6, 7, 9, 10, 15, 20, 25, 101, 111, 1000, 1001, 1011, -11, Integer.MIN_VALUE,
            Integer.MAX_VALUE};
        for (int l : none) {
            Check.due("8: letter(" + l + ", 0)", x.letter(l, 0), BAD);
        }
        Check.due("8: what -1", x.letter(1, -1), BAD);
        Check.due("8: what 3", x.letter(1, 3), BAD);
        SameLetters y = Check.told("word ab 0 1 2;word c 1 4 3;shape 0 1 0;", 3);
        Check.due("8: own of three", y.letter(121, 0), 6);
        Check.due("8: other of three", y.letter(121, 1), 7);
        Check.due("8: signs of three", y.letter(121, 2), 5);
        Check.due("8: a row ahead is none", y.letter(12, 0), BAD);
        Check.due("8: with a figure 0", y.letter(101, 0), BAD);
    }

    private static void has() {
        SameLetters x = small();
        int[] counts = {2, 1, 1, 2, 0, 0, 0, 0};
        for (int sign = 0; sign < 8; sign++) {
            Check.due("9: has(51, " + sign + ")", x.has(51, sign), counts[sign]);
        }
        Check.due("9: sign -1", x.has(51, -1), BAD);
        Check.due("9: sign 8", x.has(51, 8), BAD);
        Check.due("9: a letter that is none", x.has(15, 0), BAD);
        Check.due("9: a letter beyond", x.has(1051, 0), BAD);
        SameLetters y = Check.told("word aaaaa 0 0 0;word hhhhh 0 0 0;shape 0 0 0;", 3);
        Check.due("9: fifteen a", y.has(111, 0), 15);
        Check.due("9: fifteen h", y.has(222, 7), 15);
        Check.due("9: no b beside fifteen a", y.has(111, 1), 0);
        Check.due("9: five h", y.has(121, 7), 5);
    }

    private static void write() {
        SameLetters x = small();
        Check.due("10: none", x.write(3), BAD);
        Check.due("10: none 0", x.write(0), BAD);
        Check.due("10: the first", x.write(41), 1);
        Check.due("10: itself", x.write(41), STATE);
        Check.due("10: a shorter one", x.write(1), STATE);
        Check.due("10: BAD ahead of STATE", x.write(14), BAD);
        Check.due("10: other words", x.write(11), STATE);
        Check.due("10: an answer", x.write(31), 2);
        Check.due("10: the first one again", x.write(41), 3);
        for (int i = 4; i <= 12; i++) {
            Check.due("10: the " + i + "th", x.write(i % 2 == 0 ? 31 : 41), i);
        }
        Check.due("10: the 13th", x.write(41), FULL);
        Check.due("10: BAD ahead of FULL", x.write(14), BAD);
        Check.due("10: STATE ahead of FULL", x.write(31), STATE);
        Check.due("10: twelve are held", x.count(2), 12);
        Check.due("10: undone", x.undo(), 11);
        Check.due("10: and written anew", x.write(31), 12);
        SameLetters y = Check.told("word aab 0 0 0;word abb 0 0 0;shape 0;", 3);
        y.write(1);
        Check.due("10: the same set in other counts", y.write(2), STATE);
    }

    private static void undo() {
        SameLetters x = small();
        Check.due("11: none", x.undo(), STATE);
        x.write(41);
        x.write(31);
        Check.due("11: one is left", x.undo(), 1);
        Check.due("11: the first is left", x.wrote(0), 41);
        Check.due("11: the last is gone", x.wrote(1), NOT_SO_MANY);
        Check.due("11: none is left", x.undo(), 0);
        Check.due("11: none then", x.undo(), STATE);
        Check.due("11: any one again", x.write(1), 1);
    }

    private static void wrote() {
        SameLetters x = small();
        Check.due("12: none", x.wrote(0), NOT_SO_MANY);
        x.write(41);
        x.write(42);
        x.write(32);
        Check.due("12: 0", x.wrote(0), 41);
        Check.due("12: 1", x.wrote(1), 42);
        Check.due("12: 2", x.wrote(2), 32);
        Check.due("12: 3", x.wrote(3), NOT_SO_MANY);
        Check.due("12: 12", x.wrote(12), NOT_SO_MANY);
        Check.due("12: most", x.wrote(Integer.MAX_VALUE), NOT_SO_MANY);
        Check.due("12: -1", x.wrote(-1), BAD);
    }

    private static void side() {
        SameLetters x = small();
        Check.due("13: none, 0", x.side(0), 0);
        Check.due("13: none, 1", x.side(1), 0);
        x.write(51);
        Check.due("13: who wrote", x.side(0), 9);
        Check.due("13: who read", x.side(1), 10);
        x.write(52);
        Check.due("13: who read then", x.side(0), 9 + 10);
        Check.due("13: who wrote then", x.side(1), 10 + 13);
        x.write(51);
        Check.due("13: three, 0", x.side(0), 9 + 10 + 9);
        Check.due("13: three, 1", x.side(1), 10 + 13 + 10);
        x.undo();
        Check.due("13: undone, 0", x.side(0), 19);
        Check.due("13: -1", x.side(-1), BAD);
        Check.due("13: 2", x.side(2), BAD);
    }

    private static void says() {
        SameLetters x = small();
        int[] all = {1, 2, 11, 12, 21, 22, 31, 32, 41, 42, 51, 52};
        Check.due("14: how many", x.says(-1), all.length);
        Check.due("14: most", x.says(-2), 13);
        for (int i = 0; i < all.length; i++) {
            Check.due("14: " + i, x.says(i), all[i]);
        }
        Check.due("14: 12", x.says(12), NOT_SO_MANY);
        Check.due("14: most i", x.says(Integer.MAX_VALUE), NOT_SO_MANY);
        Check.due("14: -3", x.says(-3), BAD);
        Check.due("14: least i", x.says(Integer.MIN_VALUE), BAD);
        SameLetters y = Check.told("word a 0 0 5;shape 0;shape 0;shape 1;", 4);
        Check.due("14: of two like shapes once", y.says(-1), 1);
        Check.due("14: most is 0", y.says(-2), 0);
    }

    private static void answers() {
        SameLetters x = small();
        Check.due("15: many to 31", x.answers(31, 0, 0), 3);
        Check.due("15: best to 31", x.answers(31, 0, 1), 32);
        Check.due("15: best to 32", x.answers(32, 0, 1), 42);
        Check.due("15: many to 51", x.answers(51, 0, 0), 1);
        Check.due("15: best to 51", x.answers(51, 0, 1), 52);
        Check.due("15: best to 12, of several the least", x.answers(22, 0, 1), 12);
        Check.due("15: to 12", x.answers(12, 0, 1), 22);
        SameLetters y = Check.told("word a 0 1 0;word b 0 1 0;shape 0;", 3);
        Check.due("15: none", y.answers(1, 0, 0), 0);
        Check.due("15: no best", y.answers(1, 0, 1), NONE);
        Check.due("15: a letter that is none", x.answers(14, 0, 0), BAD);
        Check.due("15: slack -1", x.answers(31, -1, 0), BAD);
        Check.due("15: slack 3", x.answers(31, 3, 0), BAD);
        Check.due("15: what -1", x.answers(31, 0, -1), BAD);
        Check.due("15: what 2", x.answers(31, 0, 2), BAD);
    }

    private static void slack() {
        SameLetters x = Check.told("word ab 0 3 0;word abc 0 2 0;word abcd 0 2 0;word aab 0 9 0;word ac 0 1 0;"
                + "word ba 0 0 0;word abcde 0 8 0;shape 0;", 8);
        Check.due("15: slack 0", x.answers(1, 0, 0), 1);
        Check.due("15: slack 0, best", x.answers(1, 0, 1), 6);
        Check.due("15: slack 1", x.answers(1, 1, 0), 3);
        Check.due("15: slack 1, best", x.answers(1, 1, 1), 4);
        Check.due("15: slack 2", x.answers(1, 2, 0), 5);
        Check.due("15: slack 2, from abcd", x.answers(3, 2, 0), 5);
        Check.due("15: slack 2, from abcd, best", x.answers(3, 2, 1), 7);
        Check.due("15: slack 2, one more and one less", x.answers(4, 2, 0), 3);
        SameLetters y = Check.told("word a 0 0 0;word b 0 0 0;word aaa 0 0 0;word bbb 0 0 0;shape 0;", 5);
        Check.due("15: one sign less, another more", y.answers(1, 2, 0), 2);
        Check.due("15: all are worth 0", y.answers(1, 2, 1), 2);
        Check.due("15: of several the least", y.answers(4, 2, 1), 2);
    }

    private static void mute() {
        SameLetters x = small();
        Check.due("16: how many", x.mute(0), 0);
        Check.due("16: the first", x.mute(1), NONE);
        SameLetters y = Check.told("word ab 0 0 0;word ba 0 0 0;word c 0 0 0;word d 1 0 0;shape 0;shape 1 1;", 6);
        Check.due("16: two are", y.mute(0), 2);
        Check.due("16: the first of two", y.mute(1), 3);
        Check.due("16: what -1", y.mute(-1), BAD);
        Check.due("16: what 2", y.mute(2), BAD);
    }

    private static void best() {
        SameLetters x = small();
        Check.due("17: letter", x.best(0), 51);
        Check.due("17: other", x.best(1), 10);
        SameLetters y = Check.told("word ab 0 9 1;word ba 0 8 7;word ab 0 1 9;word c 0 9 9;shape 0;", 5);
        Check.due("17: of which the best one has most", y.best(0), 1);
        Check.due("17: not what another has", y.best(1), 7);
        SameLetters z = Check.told("word c 0 1 1;word ab 0 0 0;word ba 0 0 0;shape 0;", 4);
        Check.due("17: of several the least", z.best(0), 2);
        Check.due("17: other is 0", z.best(1), 0);
        SameLetters m = Check.told("word c 0 1 1;shape 0;", 2);
        Check.due("17: none", m.best(0), NONE);
        Check.due("17: none, other", m.best(1), NONE);
        Check.due("17: what -1", m.best(-1), BAD);
        Check.due("17: what 2", m.best(2), BAD);
    }

    private static void bar() {
        SameLetters x = Check.told("word bch 0 0 0;word hbc 0 0 0;word ah 0 0 0;word ahc 0 0 0;word ahb 0 0 0;"
                + "word d 0 0 0;word ee 0 0 0;shape 0;", 8);
        Check.due("18: the least", x.bar(1, 0), 1);
        Check.due("18: none answers", x.bar(3, 0), NOT_SO_MANY);
        Check.due("18: slack 1", x.bar(3, 1), 0);
        Check.due("18: slack 2, of all", x.bar(1, 2), 7);
        Check.due("18: slack 2, of all of ah", x.bar(3, 2), 0);
        Check.due("18: slack 2, none answers", x.bar(7, 2), NOT_SO_MANY);
        SameLetters y = Check.told("word a 0 0 0;word b 0 0 0;word c 0 0 0;shape 0;", 4);
        Check.due("18: no such sign", y.bar(1, 2), NONE);
        SameLetters z = Check.told("word h 0 0 0;word h 0 0 0;shape 0;", 3);
        Check.due("18: the highest sign", z.bar(1, 0), 7);
        Check.due("18: a letter that is none", x.bar(11, 0), BAD);
        Check.due("18: slack -1", x.bar(1, -1), BAD);
        Check.due("18: slack 3", x.bar(1, 3), BAD);
    }

    private static void chain() {
        SameLetters x = small();
        Check.due("19: 0", x.chain(41, 0), 41);
        Check.due("19: 1", x.chain(41, 1), 32);
        Check.due("19: 2", x.chain(41, 2), 42);
        Check.due("19: 3", x.chain(41, 3), 32);
        Check.due("19: 98", x.chain(41, 98), 42);
        Check.due("19: 99", x.chain(41, 99), 32);
        Check.due("19: 100", x.chain(41, 100), BAD);
        Check.due("19: -1", x.chain(41, -1), BAD);
        Check.due("19: a letter that is none", x.chain(14, 1), BAD);
        SameLetters y = Check.told("word c 0 1 1;shape 0;", 2);
        Check.due("19: none, 0", y.chain(1, 0), 1);
        Check.due("19: none, 1", y.chain(1, 1), NONE);
        Check.due("19: none, 99", y.chain(1, 99), NONE);
    }

    private static void ring() {
        SameLetters x = small();
        Check.due("20: it itself", x.ring(32), 2);
        Check.due("20: the second", x.ring(42), 2);
        Check.due("20: another", x.ring(41), 3);
        Check.due("20: a letter that is none", x.ring(14), BAD);
        SameLetters y = Check.told("word c 0 1 1;shape 0;", 2);
        Check.due("20: none", y.ring(1), NONE);
    }

    private static void alphabet() {
        SameLetters x = small();
        Check.due("21: one", x.alphabet(1, 0), 1);
        Check.due("21: one, how many", x.alphabet(1, 1), 0);
        Check.due("21: two", x.alphabet(2, 0), 9);
        Check.due("21: two, how many", x.alphabet(2, 1), 6);
        Check.due("21: three", x.alphabet(3, 0), 41);
        Check.due("21: three, how many", x.alphabet(3, 1), 10);
        Check.due("21: four, of several the least", x.alphabet(4, 0), 43);
        Check.due("21: four, how many", x.alphabet(4, 1), 10);
        Check.due("21: five", x.alphabet(5, 0), 47);
        Check.due("21: five, how many", x.alphabet(5, 1), 12);
        Check.due("21: eight", x.alphabet(8, 0), 255);
        Check.due("21: eight, how many", x.alphabet(8, 1), 12);
        Check.due("21: k 0", x.alphabet(0, 0), BAD);
        Check.due("21: k 9", x.alphabet(9, 0), BAD);
        Check.due("21: what -1", x.alphabet(1, -1), BAD);
        Check.due("21: what 2", x.alphabet(1, 2), BAD);
        SameLetters y = Check.told("word h 0 1 1;shape 0;", 2);
        Check.due("21: h alone", y.alphabet(1, 0), 128);
        Check.due("21: h and a", y.alphabet(2, 0), 129);
        Check.typed(y, "word b 0 1 1;shape 0;");
        y.tongue();
        Check.due("21: anew", y.alphabet(1, 0), 2);
        Check.due("21: anew, how many", y.alphabet(1, 1), 1);
    }

    private static void asked() {
        SameLetters x = Check.told("word ab 0 1 1;word ba 1 1 1;word a 2 1 1;word b 2 1 1;word b 2 1 1;"
                + "shape 0;shape 1;shape 2 2;shape 0;", 9);
        Check.due("22: of its own shape", x.asked(1, 0), 0);
        Check.due("22: of another", x.asked(1, 1), 1);
        Check.due("22: of a longer one", x.asked(1, 2), 4);
        Check.due("22: a longer one of its own", x.asked(34, 2), 3);
        Check.due("22: of the like shape", x.asked(2, 3), 1);
        Check.due("22: a letter that is none", x.asked(3, 0), BAD);
        Check.due("22: s -1", x.asked(1, -1), BAD);
        Check.due("22: s 4", x.asked(1, 4), BAD);
        SameLetters y = small();
        Check.due("22: s 3", y.asked(1, 3), BAD);
    }

    private static void rate() {
        SameLetters x = Check.told("word abc 0 9 2;word abcde 1 1 9;word h 2 0 0;shape 0;shape 1;", 5);
        int[][] due = {{9, 1, 0}, {12, 6, 1}, {7, -8, 0}, {24, 12, 2}, {7, -7, 2}, {9, 1, 0}};
        int[] traces = {1, 11, 101, 1011, 10101, 100001};
        long trace = 0;
        for (int kind = 0; kind < 6; kind++) {
            for (int w = 0; w < 3; w++) {
                Check.due("23: rate(" + kind + ", " + w + ")", x.rate(kind, w), due[kind][w]);
                trace += traces[kind];
                Check.due("27: behind rate(" + kind + ", " + w + ")", x.trace(), trace);
            }
        }
        Check.due("23: kind -1", x.rate(-1, 0), NO);
        Check.due("23: kind 6", x.rate(6, 0), NO);
        Check.due("23: w -1", x.rate(0, -1), NO);
        Check.due("23: w 3", x.rate(0, 3), NO);
        Check.due("23: both", x.rate(9, 9), NO);
        Check.due("27: nothing was asked", x.trace(), trace);
    }

    private static void threat() {
        SameLetters x = Check.told("word ab 0 3 1;word ba 0 4 1;word c 0 0 0;shape 0 0 0;shape 0;", 5);
        Check.due("23: none was written", x.rate(5, 0), 3);
        x.write(113);
        Check.due("23: twice in one", x.rate(5, 0), 5);
        x.write(131);
        x.write(321);
        Check.due("23: in three", x.rate(5, 0), 8);
        Check.due("23: once", x.rate(5, 1), 5);
        Check.due("23: the last word", x.rate(5, 2), 3);
        x.undo();
        Check.due("23: undone", x.rate(5, 0), 7);
        Check.due("23: undone, the other", x.rate(5, 1), 4);
        x.rate(4, 2);
        Check.due("27: threats", x.trace(), 7 * 100001 + 10101);
    }

    private static void keepAndBack() {
        SameLetters x = small();
        Check.due("25: none was kept", x.back(0), STATE);
        Check.due("24: none was written", x.keep(1), 0);
        x.write(41);
        x.write(42);
        Check.due("24: two", x.keep(0), 2);
        Check.due("25: of none", x.back(1), 0);
        Check.due("25: none is left", x.count(2), 0);
        Check.due("25: any one", x.write(22), 1);
        x.rate(0, 0);
        Check.due("25: two", x.back(0), 2);
        Check.due("25: the first", x.wrote(0), 41);
        Check.due("25: the second", x.wrote(1), 42);
        Check.due("25: no third", x.wrote(2), NOT_SO_MANY);
        Check.due("25: the trace goes on", x.trace(), 1);
        Check.due("25: undone then", x.undo(), 1);
        Check.due("25: another second", x.write(31), 2);
        Check.due("25: an image stays as it was", x.back(0), 2);
        Check.due("25: the second again", x.wrote(1), 42);
        x.write(31);
        Check.due("24: kept anew", x.keep(0), 3);
        x.undo();
        x.undo();
        Check.due("25: three", x.back(0), 3);
        Check.due("25: the third", x.wrote(2), 31);
        Check.typed(x, "word");
        Check.due("25: the text is no part", x.back(0), 3);
        Check.due("25: the text stays", x.count(3), 4);
        Check.due("24: -1", x.keep(-1), BAD);
        Check.due("24: 2", x.keep(2), BAD);
        Check.due("25: -1", x.back(-1), BAD);
        Check.due("25: 2", x.back(2), BAD);
    }

    private static void count() {
        SameLetters x = small();
        x.write(41);
        x.write(42);
        Check.typed(x, "shape 0;;");
        Check.due("26: words", x.count(0), 6);
        Check.due("26: shapes", x.count(1), 3);
        Check.due("26: written", x.count(2), 2);
        Check.due("26: bytes", x.count(3), 9);
        Check.due("26: -1", x.count(-1), BAD);
        Check.due("26: 4", x.count(4), BAD);
    }

    private static void trace() {
        SameLetters x = small();
        Check.due("27: 0", x.trace(), 0);
        x.rate(3, 0);
        x.write(41);
        x.keep(0);
        x.write(42);
        x.rate(4, 5);
        x.undo();
        Check.due("27: behind undo", x.trace(), 1011 + 10101);
        x.back(0);
        Check.due("27: behind back", x.trace(), 1011 + 10101);
        x.tongue();
        Check.due("27: behind a new tongue", x.trace(), 1011 + 10101);
        Check.due("27: no word", x.rate(0, 0), NO);
        Check.due("27: as before", x.trace(), 1011 + 10101);
    }

    private static void fullTongue() {
        StringBuilder text = new StringBuilder();
        for (int w = 0; w < 9; w++) {
            text.append("word abcdh 0 ").append(w).append(' ').append(9 - w).append(';');
        }
        SameLetters x = Check.told(text + "shape 0 0 0;shape 0 0;shape 0;", 12);
        Check.due("8: 999 has own 24", x.letter(999, 0), 24);
        Check.due("8: 999 has other 3", x.letter(999, 1), 3);
        Check.due("14: all rows", x.says(-1), 9 + 81 + 729);
        Check.due("14: the last row", x.says(818), 999);
        Check.due("14: none behind it", x.says(819), NOT_SO_MANY);
        Check.due("10: 999", x.write(999), 1);
        Check.due("15: all others answer 999", x.answers(999, 0, 0), 728);
        Check.due("15: the best answer to 999", x.answers(999, 0, 1), 899);
        Check.due("15: the best answer to 9", x.answers(9, 2, 1), 8);
        Check.due("19: 999", x.chain(111, 1), 999);
        Check.due("19: behind 999", x.chain(999, 1), 899);
        Check.due("21: five", x.alphabet(5, 0), 143);
        Check.due("21: five, how many", x.alphabet(5, 1), 819);
        Check.due("22: of three words", x.asked(999, 0), 728);
        Check.due("22: of two words", x.asked(99, 1), 80);
    }

    private static void ties() {
        SameLetters x = Check.told("word ab 0 2 4;word ba 0 5 3;word ab 0 5 6;word ba 0 2 9;word ab 0 5 1;shape 0;", 6);
        Check.due("19: of several the least", x.chain(1, 1), 2);
        Check.due("19: behind the least, the next", x.chain(2, 1), 3);
        Check.due("19: behind the next, the least", x.chain(3, 1), 2);
        Check.due("20: in the ring", x.ring(3), 2);
        Check.due("20: ahead of the ring", x.ring(5), 3);
        Check.due("17: the best one's answer is the next", x.best(0), 2);
        Check.due("17: the next one's other", x.best(1), 6);
        SameLetters y = Check.told("word ab 0 3 3;word ba 0 1 3;word ab 0 1 3;word ba 0 1 3;shape 0;", 5);
        Check.due("19: behind the best one the least", y.chain(1, 1), 2);
        Check.due("17: of several the least, 1", y.best(0), 1);
    }

    private static void anew() {
        SameLetters x = Check.told("word h 0 1 1;word h 0 2 1;word h 0 3 1;word g 0 1 1;word ab 0 1 1;"
                + "shape 0;shape 0 0;", 7);
        Check.due("21: one", x.alphabet(1, 1), 12);
        Check.typed(x, "word b 0 1 1;word ba 0 1 1;word ab 0 7 7;shape 0;shape 1 1;");
        Check.due("4: anew", x.tongue(), 5);
        Check.due("21: one of the new ones", x.alphabet(1, 0), 2);
        Check.due("21: one, how many of the new ones", x.alphabet(1, 1), 1);
        Check.due("21: all, how many of the new ones", x.alphabet(8, 1), 3);
        Check.due("16: the new ones", x.mute(0), 1);
        Check.due("16: the first of the new ones", x.mute(1), 1);
        Check.due("17: of the new ones", x.best(0), 2);
        Check.due("17: of the new ones, other", x.best(1), 7);
        Check.due("19: of the new ones", x.chain(3, 1), 2);
        Check.due("14: the most of the new ones", x.says(-2), 7);
        Check.due("8: no row of the old ones", x.letter(11, 0), BAD);
        Check.due("22: none of the old ones", x.asked(2, 1), 0);
    }

    private static void firstLetterAnswers() {
        SameLetters x = Check.told("word ab 0 0 8;word ba 0 0 2;word c 1 0 0;shape 0;shape 1;", 5);
        Check.due("15: 1 answers 2", x.answers(2, 0, 1), 1);
        Check.due("15: 1 is counted", x.answers(2, 0, 0), 1);
        Check.due("17: 2 is answered by 1", x.best(0), 2);
        Check.due("18: 1 alone answers", x.bar(2, 0), 0);
        Check.due("22: 1 is of the shape", x.asked(2, 0), 1);
        Check.due("14: 1 is the first", x.says(0), 1);
        SameLetters y = Check.told("word c 0 0 0;word ab 0 0 8;word ba 0 0 2;shape 0;", 4);
        Check.due("16: 1 has no answer", y.mute(0), 1);
        Check.due("16: 1 is the first", y.mute(1), 1);
        SameLetters z = Check.told("word ab 0 9 9;shape 0 0 0;word ba 0 0 2;shape 2 2 2;shape 1 2 1;shape 0 1 2;", 6);
        Check.due("8: a row that is no shape", z.letter(11, 0), BAD);
        Check.due("14: rows of one shape alone", z.says(-1), 8);
    }

    private static void bytesBehindTheText() {
        SameLetters x = new SameLetters();
        Check.typed(x, "shapes 00;word");
        x.clear();
        Check.typed(x, "shape");
        Check.due("4: letters that were cleared", x.tongue(), -10 - 5);
        Check.typed(x, " 0");
        Check.due("4: figures that were cleared", x.tongue(), -10 - 7);
        Check.typed(x, " ");
        Check.due("4: a sign that was cleared", x.tongue(), -10 - 8);
        Check.typed(x, ";");
        Check.due("4: told in the end", x.tongue(), 1);
        String blanks = " ".repeat(192);
        fault(blanks + "shape 00", 198);
        fault(blanks + "shape 12", 198);
        fault(blanks + "shape 0 ", 200);
        fault(blanks + " shape 1", 200);
        fault(blanks + "shape  ;", 199);
        fault(blanks + "word abc", 200);
        fault(blanks + "    word", 200);
        fault(blanks + "   words", 195);
        Check.told(blanks + "shape 2;", 1);
    }

    private static void imageOfTwelve() {
        SameLetters x = small();
        for (int i = 0; i < 12; i++) {
            x.write(i % 2 == 0 ? 41 : 31);
        }
        Check.due("24: twelve", x.keep(1), 12);
        Check.due("10: full", x.write(41), FULL);
        x.undo();
        x.keep(0);
        Check.due("25: twelve", x.back(1), 12);
        Check.due("12: the twelfth", x.wrote(11), 31);
        Check.due("12: no thirteenth", x.wrote(12), NOT_SO_MANY);
        Check.due("25: eleven", x.back(0), 11);
        Check.due("12: no twelfth", x.wrote(11), NOT_SO_MANY);
        Check.due("23: of eleven", x.rate(5, 0), 1 + 11);
    }
}
