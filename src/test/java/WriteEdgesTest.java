/** Promises 10 to 13, 24 and 25, and what the terms say of two who write: a test for each sentence with an edge. */
public final class WriteEdgesTest {
    private static final int BAD = -1, STATE = -2, FULL = -3, NOT_SO_MANY = -5;
    private static final int LEAST = Integer.MIN_VALUE, MOST = Integer.MAX_VALUE;

    // Letters 1, 2, 5 answer one another; 3 and 4 answer none.
    private static final String TONGUE = "word ab 0 1 2;word ba 0 4 8;word aab 0 9 9;word a 1 9 9;word ab 0 0 5;"
            + "shape 0;shape 1;";

    public static void main(String[] args) {
        writeLettersThatAreNone();
        firstLetterIsAnyOne();
        letterThatIsTheLastOne();
        letterOfOtherCounts();
        letterAnswersTheLastOneAlone();
        likeSpelledLettersAnswer();
        twelveLettersAtMost();
        writeBadAheadOfState();
        writeBadAheadOfFull();
        writeStateAheadOfFull();
        undoOfNone();
        undoOfOneToTwelve();
        behindUndoneAnyOtherAnswer();
        wroteFromNought();
        wroteNotSoMany();
        wroteBelowNought();
        sidesThatAreNone();
        sidesOfNoneWritten();
        sideNoughtWritesFirst();
        sidesOfTwelveLetters();
        sidesOfTheUndone();
        keepImagesThatAreNone();
        keepOfNoneAndOfTwelve();
        keepAnew();
        keptStaysAsItWas();
        imagesStandAlone();
        backToImagesThatAreNone();
        backToOnesNotKept();
        backToNoneAndToTwelve();
        backAgain();
        backThenUndone();
        imagesKeepNothingElse();
        Check.end();
    }

    private static SameLetters told() {
        return Check.told(TONGUE, 7);
    }

    private static SameLetters wrote(int letters) {
        SameLetters x = told();
        for (int i = 0; i < letters; i++) {
            Check.due("10: the " + i + "th", x.write(i % 2 == 0 ? 1 : 2), i + 1);
        }
        return x;
    }

    private static void written(String what, SameLetters x, int... due) {
        Check.due(what + ": how many", x.count(2), due.length);
        for (int i = 0; i < due.length; i++) {
            Check.due(what + ": the " + i + "th", x.wrote(i), due[i]);
        }
        Check.due(what + ": none behind", x.wrote(due.length), NOT_SO_MANY);
    }

    // ---- promise 10

    /** "BAD (it is none)". */
    private static void writeLettersThatAreNone() {
        for (int many : new int[] {0, 1, 5, 12}) {
            for (int l : new int[] {LEAST, -11, -1, 0, 6, 9, 10, 11, 12, 44, 101, 1000, 1001, MOST}) {
                SameLetters x = wrote(many);
                Check.due("10: write(" + l + ") behind " + many, x.write(l), BAD);
                Check.due("10: as many behind " + l, x.count(2), many);
            }
        }
        Check.due("10: no tongue", new SameLetters().write(1), BAD);
    }

    /** "The first LETTER is any one": those that have no answer, too. */
    private static void firstLetterIsAnyOne() {
        for (int l = 1; l <= 5; l++) {
            SameLetters x = told();
            Check.due("10: first " + l, x.write(l), 1);
            written("10: first " + l, x, l);
        }
    }

    /** "each later one ANSWERS the one ahead: unlike it". */
    private static void letterThatIsTheLastOne() {
        for (int l = 1; l <= 5; l++) {
            SameLetters x = told();
            x.write(l);
            Check.due("10: twice " + l, x.write(l), STATE);
            written("10: twice " + l, x, l);
        }
        SameLetters x = wrote(4);
        Check.due("10: the fourth again", x.write(2), STATE);
        written("10: the fourth again", x, 1, 2, 1, 2);
    }

    /** "with the same COUNT": STATE for a sign more, a sign less, the same signs in other counts. */
    private static void letterOfOtherCounts() {
        SameLetters x = wrote(1);
        Check.due("10: a sign more", x.write(3), STATE);
        Check.due("10: a sign less", x.write(4), STATE);
        written("10: other counts", x, 1);
        SameLetters y = Check.told("word aab 0 0 0;word abb 0 0 0;word ghg 0 0 0;word ggh 0 0 0;shape 0;shape 0 0;", 6);
        y.write(1);
        Check.due("10: as many signs, as many different ones", y.write(2), STATE);
        Check.due("10: none of its signs", y.write(3), STATE);
        Check.due("10: its signs twice", y.write(11), STATE);
        y.undo();
        Check.due("10: the first of two", y.write(12), 1);
        Check.due("10: in the other order", y.write(21), 2);
        Check.due("10: as many a and b as six signs can be", y.write(11), STATE);
        y.undo();
        y.undo();
        Check.due("10: of the highest signs", y.write(4), 1);
        Check.due("10: of the highest signs, answered", y.write(3), 2);
    }

    /** "STATE: it does not ANSWER the last one": what stands ahead of that does not matter. */
    private static void letterAnswersTheLastOneAlone() {
        SameLetters x = wrote(2);
        Check.due("10: the first one again", x.write(1), 3);
        Check.due("10: a third one", x.write(5), 4);
        Check.due("10: the third one again", x.write(5), STATE);
        Check.due("10: the first one a third time", x.write(1), 5);
        written("10: three by turns", x, 1, 2, 1, 5, 1);
    }

    /** "unlike it" is another letter: words spelled alike make letters that answer one another. */
    private static void likeSpelledLettersAnswer() {
        SameLetters x = told();
        x.write(1);
        Check.due("10: spelled alike", x.write(5), 2);
        Check.due("10: spelled alike, back", x.write(1), 3);
    }

    /** "(12 LETTERS at most)"; "FULL". */
    private static void twelveLettersAtMost() {
        SameLetters x = wrote(11);
        Check.due("10: the twelfth", x.write(2), 12);
        Check.due("10: a thirteenth", x.write(1), FULL);
        Check.due("10: another thirteenth", x.write(5), FULL);
        written("10: twelve", x, 1, 2, 1, 2, 1, 2, 1, 2, 1, 2, 1, 2);
        x.undo();
        Check.due("10: another twelfth", x.write(5), 12);
        Check.due("10: no thirteenth behind that", x.write(1), FULL);
        written("10: twelve anew", x, 1, 2, 1, 2, 1, 2, 1, 2, 1, 2, 1, 5);
    }

    /** "the first of these: BAD (...), STATE (...), FULL". */
    private static void writeBadAheadOfState() {
        SameLetters x = wrote(1);
        Check.due("10: a letter that answers nothing", x.write(3), STATE);
        Check.due("10: none, that could answer nothing", x.write(6), BAD);
        Check.due("10: none, of the like words", x.write(12), BAD);
    }

    /** The same, of twelve. */
    private static void writeBadAheadOfFull() {
        SameLetters x = wrote(12);
        Check.due("10: a thirteenth", x.write(1), FULL);
        Check.due("10: a thirteenth that is none", x.write(6), BAD);
        Check.due("10: a thirteenth 0", x.write(0), BAD);
    }

    /** The same, of twelve. */
    private static void writeStateAheadOfFull() {
        SameLetters x = wrote(12);
        Check.due("10: a thirteenth that is the twelfth", x.write(2), STATE);
        Check.due("10: a thirteenth that does not answer", x.write(3), STATE);
        Check.due("10: a thirteenth of another shape", x.write(4), STATE);
        written("10: twelve", x, 1, 2, 1, 2, 1, 2, 1, 2, 1, 2, 1, 2);
    }

    // ---- promise 11

    /** "STATE: none". */
    private static void undoOfNone() {
        Check.due("11: of no tongue", new SameLetters().undo(), STATE);
        SameLetters x = told();
        Check.due("11: of none", x.undo(), STATE);
        Check.due("11: of none, twice", x.undo(), STATE);
        Check.due("11: none", x.count(2), 0);
        Check.due("11: then the first", x.write(3), 1);
        Check.due("11: then none is left", x.undo(), 0);
        Check.due("11: then none again", x.undo(), STATE);
    }

    /** "UNDONE: the last LETTER"; "how many are left". */
    private static void undoOfOneToTwelve() {
        SameLetters x = wrote(12);
        for (int left = 11; left >= 0; left--) {
            Check.due("11: left " + left, x.undo(), left);
            Check.due("11: count of " + left, x.count(2), left);
            Check.due("11: the last is gone of " + left, x.wrote(left), NOT_SO_MANY);
            if (left > 0) {
                Check.due("11: the one ahead stays of " + left, x.wrote(left - 1), left % 2 == 0 ? 2 : 1);
            }
        }
        Check.due("11: none", x.undo(), STATE);
    }

    /** Behind what is undone a letter answers the one that is last then; behind the first one it is any one. */
    private static void behindUndoneAnyOtherAnswer() {
        SameLetters x = wrote(2);
        x.undo();
        Check.due("11: not the last one", x.write(1), STATE);
        Check.due("11: another answer", x.write(5), 2);
        x.undo();
        x.undo();
        Check.due("11: any one", x.write(4), 1);
        written("11: any one", x, 4);
    }

    // ---- promise 12

    /** "(from 0)". */
    private static void wroteFromNought() {
        SameLetters x = wrote(12);
        for (int i = 0; i < 12; i++) {
            Check.due("12: " + i, x.wrote(i), i % 2 == 0 ? 1 : 2);
        }
    }

    /** "-5: not so many". */
    private static void wroteNotSoMany() {
        for (int many : new int[] {0, 1, 2, 11, 12}) {
            SameLetters x = wrote(many);
            for (int i : new int[] {many, many + 1, 12, 13, 512, MOST}) {
                Check.due("12: " + i + " of " + many, x.wrote(i), NOT_SO_MANY);
            }
        }
        Check.due("12: of no tongue", new SameLetters().wrote(0), NOT_SO_MANY);
    }

    /** "BAD (i below 0)". */
    private static void wroteBelowNought() {
        for (int many : new int[] {0, 1, 12}) {
            SameLetters x = wrote(many);
            for (int i : new int[] {-1, -2, -5, -12, LEAST}) {
                Check.due("12: " + i + " of " + many, x.wrote(i), BAD);
            }
        }
    }

    // ---- promise 13

    /** "BAD": sides are 0 and 1. */
    private static void sidesThatAreNone() {
        for (int many : new int[] {0, 1, 2, 12}) {
            SameLetters x = wrote(many);
            for (int s : new int[] {LEAST, -2, -1, 2, 3, MOST}) {
                Check.due("13: side " + s + " of " + many, x.side(s), BAD);
            }
        }
    }

    /** None was written: neither has anything. */
    private static void sidesOfNoneWritten() {
        SameLetters x = told();
        Check.due("13: side 0", x.side(0), 0);
        Check.due("13: side 1", x.side(1), 0);
        SameLetters y = Check.told("word a 0 0 0;shape 0;", 2);
        y.write(1);
        Check.due("13: side 0 of a letter of no worth", y.side(0), 0);
        Check.due("13: side 1 of a letter of no worth", y.side(1), 0);
    }

    /** "by turns, SIDE 0 first"; "Whoever writes a LETTER has OWN of its WORDS, the other SIDE has OTHER of them". */
    private static void sideNoughtWritesFirst() {
        SameLetters x = told();
        int[] letters = {1, 2, 5, 1};
        int[] first = {1, 1 + 8, 1 + 8 + 0, 1 + 8 + 0 + 2};
        int[] second = {2, 2 + 4, 2 + 4 + 5, 2 + 4 + 5 + 1};
        for (int i = 0; i < letters.length; i++) {
            x.write(letters[i]);
            Check.due("13: side 0 behind " + (i + 1), x.side(0), first[i]);
            Check.due("13: side 1 behind " + (i + 1), x.side(1), second[i]);
        }
        SameLetters y = Check.told("word ab 0 1 2;word c 0 4 8;shape 0 0 0;", 3);
        y.write(122);
        Check.due("13: own of three words, the like twice", y.side(0), 9);
        Check.due("13: other of three words, the like twice", y.side(1), 18);
    }

    /** Of twelve letters, of the least and of the most. */
    private static void sidesOfTwelveLetters() {
        SameLetters x = wrote(12);
        Check.due("13: side 0 of twelve", x.side(0), 6 * (1 + 8));
        Check.due("13: side 1 of twelve", x.side(1), 6 * (2 + 4));
        SameLetters y = Check.told("word a 0 9 9;word a 0 9 9;shape 0 0 0;", 3);
        for (int i = 0; i < 12; i++) {
            y.write(i % 2 == 0 ? 111 : 222);
        }
        Check.due("13: the most of side 0", y.side(0), 12 * 27);
        Check.due("13: the most of side 1", y.side(1), 12 * 27);
    }

    /** What is undone no side has; the turn goes back, too. */
    private static void sidesOfTheUndone() {
        SameLetters x = wrote(3);
        x.undo();
        Check.due("13: side 0 of two", x.side(0), 1 + 8);
        Check.due("13: side 1 of two", x.side(1), 2 + 4);
        x.undo();
        x.undo();
        Check.due("13: side 0 of none", x.side(0), 0);
        Check.due("13: side 1 of none", x.side(1), 0);
        x.write(2);
        Check.due("13: side 0 writes first again", x.side(0), 4);
        Check.due("13: side 1 reads first again", x.side(1), 8);
    }

    // ---- promise 24

    /** "IMAGES 0, 1"; "BAD". */
    private static void keepImagesThatAreNone() {
        for (int image : new int[] {LEAST, -2, -1, 2, 3, MOST}) {
            SameLetters x = wrote(3);
            Check.due("24: image " + image, x.keep(image), BAD);
            Check.due("24: image 0 was not kept", x.back(0), STATE);
            Check.due("24: image 1 was not kept", x.back(1), STATE);
            Check.due("24: three are there", x.count(2), 3);
        }
    }

    /** "how many LETTERS were written": none, one, twelve. */
    private static void keepOfNoneAndOfTwelve() {
        for (int image = 0; image < 2; image++) {
            Check.due("24: of no tongue", new SameLetters().keep(image), 0);
            for (int many : new int[] {0, 1, 11, 12}) {
                SameLetters x = wrote(many);
                Check.due("24: of " + many, x.keep(image), many);
                Check.due("24: none is gone of " + many, x.count(2), many);
                Check.due("24: the other image of " + many, x.back(1 - image), STATE);
                Check.due("24: the image of " + many, x.back(image), many);
            }
        }
    }

    /** An image that is kept again is what was written last. */
    private static void keepAnew() {
        SameLetters x = wrote(5);
        Check.due("24: five", x.keep(0), 5);
        x.undo();
        x.undo();
        Check.due("24: three", x.keep(0), 3);
        x.undo();
        Check.due("24: back to three", x.back(0), 3);
        written("24: three", x, 1, 2, 1);
        Check.due("24: three again", x.keep(0), 3);
        Check.due("24: back to three again", x.back(0), 3);
    }

    /** What is written or undone behind that does not change an image. */
    private static void keptStaysAsItWas() {
        SameLetters x = wrote(2);
        x.keep(1);
        x.undo();
        x.write(5);
        x.write(2);
        x.back(1);
        written("24: as it was", x, 1, 2);
        x.write(5);
        x.undo();
        x.undo();
        x.undo();
        x.write(4);
        x.back(1);
        written("24: as it was, twice", x, 1, 2);
    }

    /** One image is not the other. */
    private static void imagesStandAlone() {
        SameLetters x = wrote(1);
        x.keep(0);
        x.write(5);
        x.write(2);
        x.keep(1);
        x.back(0);
        written("24: image 0", x, 1);
        x.back(1);
        written("24: image 1", x, 1, 5, 2);
        x.back(0);
        x.keep(1);
        x.back(1);
        written("24: image 1, of image 0", x, 1);
    }

    // ---- promise 25

    /** "BAD". */
    private static void backToImagesThatAreNone() {
        for (int image : new int[] {LEAST, -2, -1, 2, 3, MOST}) {
            SameLetters x = wrote(3);
            Check.due("25: none was kept, image " + image, x.back(image), BAD);
            x.keep(0);
            x.keep(1);
            x.write(5);
            Check.due("25: all were kept, image " + image, x.back(image), BAD);
            written("25: behind image " + image, x, 1, 2, 1, 5);
        }
    }

    /** "STATE: none was kept". */
    private static void backToOnesNotKept() {
        for (int image = 0; image < 2; image++) {
            Check.due("25: of no tongue", new SameLetters().back(image), STATE);
            SameLetters x = wrote(2);
            x.keep(1 - image);
            x.write(5);
            Check.due("25: the other one was kept", x.back(image), STATE);
            written("25: the other one was kept", x, 1, 2, 5);
        }
    }

    /** "All of that becomes as an IMAGE has it": from more to fewer, from fewer to more. */
    private static void backToNoneAndToTwelve() {
        SameLetters x = told();
        x.keep(0);
        for (int i = 0; i < 12; i++) {
            x.write(i % 2 == 0 ? 5 : 2);
        }
        x.keep(1);
        Check.due("25: to none", x.back(0), 0);
        written("25: to none", x);
        Check.due("25: nothing to undo", x.undo(), STATE);
        Check.due("25: the first one is any one", x.write(3), 1);
        Check.due("25: to twelve", x.back(1), 12);
        written("25: to twelve", x, 5, 2, 5, 2, 5, 2, 5, 2, 5, 2, 5, 2);
        Check.due("25: full", x.write(1), FULL);
    }

    /** An image can be gone back to as often as one likes. */
    private static void backAgain() {
        SameLetters x = wrote(2);
        x.keep(0);
        for (int time = 0; time < 3; time++) {
            Check.due("25: time " + time, x.back(0), 2);
            written("25: time " + time, x, 1, 2);
            x.write(5);
        }
    }

    /** Behind back() the last letter of the image is the last one: it is answered, and undone. */
    private static void backThenUndone() {
        SameLetters x = wrote(3);
        x.keep(0);
        for (int i = 0; i < 3; i++) {
            x.undo();
        }
        x.write(3);
        x.back(0);
        Check.due("25: the last one of the image", x.write(1), STATE);
        Check.due("25: side 1 has what it had", x.side(1), 2 + 4 + 2);
        Check.due("25: it is side 1's turn", x.write(2), 4);
        Check.due("25: side 1 wrote", x.side(1), 2 + 4 + 2 + 4);
        Check.due("25: undone", x.undo(), 3);
        Check.due("25: undone, of the image", x.undo(), 2);
        written("25: undone", x, 1, 2);
    }

    /** "IMAGES 0, 1 keep LETTERS that were written; nothing else"; THE TRACE goes on. */
    private static void imagesKeepNothingElse() {
        SameLetters x = wrote(1);
        Check.typed(x, "shape");
        x.rate(0, 0);
        x.keep(0);
        Check.typed(x, " 0;");
        x.rate(1, 0);
        Check.due("25: back", x.back(0), 1);
        Check.due("25: the text is no part of it", x.count(3), 8);
        Check.due("25: the trace is no part of it", x.trace(), 1 + 11);
        Check.due("25: the tongue is no part of it", x.count(0), 5);
        x.undo();
        Check.due("27: the trace behind undo", x.trace(), 1 + 11);
        Check.due("4: the text is read", x.tongue(), 1);
        Check.due("25: the image is gone", x.back(0), STATE);
    }
}
