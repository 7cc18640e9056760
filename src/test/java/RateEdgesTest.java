/** Promises 23, 26 and 27 and what the terms say of kinds of words: a test for each sentence that names an edge. */
public final class RateEdgesTest {
    private static final int BAD = -1, NO = -1000000;
    private static final int LEAST = Integer.MIN_VALUE, MOST = Integer.MAX_VALUE;
    private static final int WORD = 0, VOW = 1, BILL = 2, VERSE = 3, INSULT = 4, THREAT = 5;
    private static final int[] TRACES = {1, 11, 101, 1011, 10101, 100001};

    // Words of least and most: (signs, own, other) 1 0 0; 5 9 9; 1 0 9; 5 9 0.
    private static final String EDGES = "word a 0 0 0;word abcde 0 9 9;word b 0 0 9;word edcba 0 9 0;shape 0;"
            + "shape 0 0 0;";

    public static void main(String[] args) {
        kindsThatAreNone();
        wordsThatAreNone();
        noRateAddsNothing();
        wordItsOwn();
        vowAndItsSigns();
        billLessItsOther();
        verseTwice();
        insultAndItsNumber();
        threatNeverWritten();
        threatInEachLetter();
        threatOfTwelveLetters();
        threatOfTheUndone();
        threatOfAnImage();
        kindOfTheWordDoesNotMatter();
        traceOfANewObject();
        traceOfEachKind();
        traceOfAVerseIsAskedOnce();
        traceOfNothingElse();
        traceBehindUndoAndBack();
        traceOfFiveHundredCalls();
        countOfOtherThings();
        countOfTheLeastAndTheMost();
        theFiveHundredTwelfthCall();
        Check.end();
    }

    private static SameLetters edges() {
        return Check.told(EDGES, 6);
    }

    private static void rates(String what, int kind, int... due) {
        SameLetters x = edges();
        for (int w = 0; w < due.length; w++) {
            Check.due("23: " + what + " of " + w, x.rate(kind, w), due[w]);
        }
    }

    // ---- promise 23

    /** "NO: BAD": kinds are 0 .. 5. */
    private static void kindsThatAreNone() {
        for (int kind : new int[] {LEAST, -2, -1, 6, 7, 10, MOST}) {
            SameLetters x = edges();
            for (int w : new int[] {-1, 0, 3, 4}) {
                Check.due("23: rate(" + kind + ", " + w + ")", x.rate(kind, w), NO);
            }
        }
    }

    /** "NO: BAD": there is no such word. */
    private static void wordsThatAreNone() {
        SameLetters nine = Check.told("word a 0 0 0;".repeat(9), 9);
        for (int kind = -1; kind <= 6; kind++) {
            SameLetters x = edges();
            for (int w : new int[] {LEAST, -1, 4, 8, 9, MOST}) {
                Check.due("23: rate(" + kind + ", " + w + ")", x.rate(kind, w), NO);
            }
            Check.due("23: rate(" + kind + ", 9) of nine", nine.rate(kind, 9), NO);
            Check.due("23: rate(" + kind + ", 0) of no tongue", new SameLetters().rate(kind, 0), NO);
        }
    }

    /** "Refused, and nothing changes": no body was asked. */
    private static void noRateAddsNothing() {
        SameLetters x = edges();
        x.rate(WORD, 0);
        int[][] refused = {{-1, 0}, {6, 0}, {0, -1}, {0, 4}, {1, 4}, {2, 4}, {3, 4}, {4, 4}, {5, 4}, {6, 4}, {-1, -1}};
        for (int[] call : refused) {
            Check.due("23: rate(" + call[0] + ", " + call[1] + ")", x.rate(call[0], call[1]), NO);
            Check.due("27: behind rate(" + call[0] + ", " + call[1] + ")", x.trace(), 1);
        }
    }

    /** "WORD its OWN": 0 .. 9. */
    private static void wordItsOwn() {
        rates("word", WORD, 0, 9, 0, 9);
    }

    /** "VOW up, and how many SIGNS it has": 1 .. 14. */
    private static void vowAndItsSigns() {
        rates("vow", VOW, 1, 14, 1, 14);
    }

    /** "BILL up less its OTHER": below 0, too, but never NO. */
    private static void billLessItsOther() {
        rates("bill", BILL, 0, 0, -9, 9);
    }

    /** "VERSE twice up". */
    private static void verseTwice() {
        rates("verse", VERSE, 2, 28, 2, 28);
    }

    /** "INSULT up, and its number": from 0 to 8. */
    private static void insultAndItsNumber() {
        rates("insult", INSULT, 0, 1, -7, 12);
        SameLetters nine = Check.told("word a 0 0 0;".repeat(8) + "word a 2 1 9;", 9);
        Check.due("23: insult of the first word", nine.rate(INSULT, 0), 0);
        Check.due("23: insult of the ninth word", nine.rate(INSULT, 8), 1 - 9 + 8);
    }

    /** "THREAT up, and how often it was written": never. */
    private static void threatNeverWritten() {
        rates("threat", THREAT, 0, 9, 0, 9);
        SameLetters x = edges();
        x.write(2);
        Check.due("23: another word was written", x.rate(THREAT, 0), 0);
        Check.due("23: another word, beside it", x.rate(THREAT, 2), 0);
        Check.due("23: this word was written", x.rate(THREAT, 1), 10);
    }

    /** "(in each LETTER as often as it is there)": once, twice, thrice, at each place. */
    private static void threatInEachLetter() {
        int[][] due = {{1, 1, 0}, {111, 3, 0}, {112, 2, 1}, {121, 2, 1}, {211, 2, 1}, {122, 1, 2}, {222, 0, 3}};
        for (int[] row : due) {
            SameLetters x = edges();
            x.write(row[0]);
            Check.due("23: word 0 in " + row[0], x.rate(THREAT, 0), row[1]);
            Check.due("23: word 1 in " + row[0], x.rate(THREAT, 1), 9 + row[2]);
        }
        SameLetters nine = Check.told("word a 1 0 0;".repeat(8) + "word a 0 0 0;shape 0 0 0;", 10);
        nine.write(999);
        Check.due("23: the ninth word", nine.rate(THREAT, 8), 3);
        Check.due("23: the eighth word", nine.rate(THREAT, 7), 0);
        Check.due("23: the first word", nine.rate(THREAT, 0), 0);
    }

    /** "how often it was written": of twelve letters all. */
    private static void threatOfTwelveLetters() {
        SameLetters x = Check.told("word a 0 9 0;word a 0 0 0;shape 0 0 0;", 3);
        for (int i = 0; i < 12; i++) {
            x.write(i % 2 == 0 ? 111 : 112);
        }
        Check.due("23: word 0 of twelve", x.rate(THREAT, 0), 9 + 6 * 3 + 6 * 2);
        Check.due("23: word 1 of twelve", x.rate(THREAT, 1), 6);
        x.write(111);
        Check.due("23: the thirteenth was refused", x.rate(THREAT, 0), 9 + 30);
        x.undo();
        Check.due("23: word 0 of eleven", x.rate(THREAT, 0), 9 + 28);
        Check.due("23: word 1 of eleven", x.rate(THREAT, 1), 5);
    }

    /** What is undone was not written. */
    private static void threatOfTheUndone() {
        SameLetters x = edges();
        x.write(112);
        x.undo();
        Check.due("23: word 0 of none", x.rate(THREAT, 0), 0);
        Check.due("23: word 1 of none", x.rate(THREAT, 1), 9);
    }

    /** What an image has was written, whatever was written in between. */
    private static void threatOfAnImage() {
        SameLetters x = edges();
        x.keep(0);
        x.write(111);
        x.keep(1);
        x.back(0);
        Check.due("23: of an image of none", x.rate(THREAT, 0), 0);
        x.write(1);
        x.back(1);
        Check.due("23: of an image of one", x.rate(THREAT, 0), 3);
    }

    /** "RATE of a WORD as if of one": the kind that its row of the text tells is another. */
    private static void kindOfTheWordDoesNotMatter() {
        SameLetters x = Check.told("word ab 0 3 1;word ab 1 3 1;word ab 2 3 1;", 3);
        int[] due = {3, 5, 2, 10, 2, 3};
        for (int w = 0; w < 3; w++) {
            for (int kind = 0; kind < 6; kind++) {
                Check.due("23: rate(" + kind + ", " + w + ")", x.rate(kind, w), due[kind] + (kind == INSULT ? w : 0));
            }
        }
    }

    // ---- promise 27

    /** "THE TRACE, 0 at first". */
    private static void traceOfANewObject() {
        Check.due("27: at first", new SameLetters().trace(), 0);
        Check.due("27: with words", edges().trace(), 0);
    }

    /** "(numbers in brackets are added to THE TRACE ... as often as rate() asks that body: each once)". */
    private static void traceOfEachKind() {
        for (int kind = 0; kind < 6; kind++) {
            SameLetters x = edges();
            for (int times = 1; times <= 3; times++) {
                x.rate(kind, times);
                Check.due("27: kind " + kind + ", time " + times, x.trace(), (long) times * TRACES[kind]);
            }
        }
    }

    /** "VERSE twice up (asked once)". */
    private static void traceOfAVerseIsAskedOnce() {
        SameLetters x = edges();
        x.rate(VERSE, 1);
        Check.due("27: a verse", x.trace(), 1000 + 10 + 1);
    }

    /** "as often as rate() asks that body": no other call asks one. */
    private static void traceOfNothingElse() {
        SameLetters x = edges();
        x.word(0, 2);
        x.letter(111, 0);
        x.write(1);
        x.side(0);
        x.says(-2);
        x.answers(1, 0, 1);
        x.best(1);
        x.chain(1, 9);
        x.keep(0);
        x.back(0);
        x.undo();
        x.trace();
        Check.due("27: nothing was rated", x.trace(), 0);
    }

    /** "THE TRACE goes on, as behind undo(), back()". */
    private static void traceBehindUndoAndBack() {
        SameLetters x = edges();
        x.keep(0);
        x.write(1);
        x.rate(THREAT, 0);
        x.undo();
        Check.due("27: behind undo", x.trace(), 100001);
        x.rate(WORD, 0);
        x.write(1);
        x.back(0);
        Check.due("27: behind back", x.trace(), 100002);
        x.rate(BILL, 0);
        Check.due("27: it goes on", x.trace(), 100103);
    }

    /** The most that 512 calls can add. */
    private static void traceOfFiveHundredCalls() {
        SameLetters x = new SameLetters();
        x.type(0x776f726420612030L, 8);
        x.type(0x203120313bL, 5);
        x.tongue();
        for (int i = 1; i <= 508; i++) {
            Check.due("23: threat " + i, x.rate(THREAT, 0), 1);
        }
        Check.due("27: behind 508", x.trace(), 508L * 100001);
    }

    // ---- promise 26

    /** "0 WORDS, 1 SHAPES, 2 LETTERS that were written, 3 bytes of THE TEXT. BAD". */
    private static void countOfOtherThings() {
        for (int what : new int[] {LEAST, -2, -1, 4, 5, MOST}) {
            Check.due("26: count(" + what + ")", edges().count(what), BAD);
            Check.due("26: count(" + what + ") of no tongue", new SameLetters().count(what), BAD);
        }
    }

    /** None of each, and the most of each. */
    private static void countOfTheLeastAndTheMost() {
        int[] most = {9, 4, 12, 200};
        SameLetters x = Check.told("word a 0 0 0;".repeat(9) + "shape 0;".repeat(4), 13);
        for (int i = 0; i < 12; i++) {
            x.write(1 + i % 2);
        }
        Check.typed(x, ";".repeat(200));
        for (int what = 0; what < 4; what++) {
            Check.due("26: least of " + what, new SameLetters().count(what), 0);
            Check.due("26: most of " + what, x.count(what), most[what]);
        }
    }

    /** "An object is used for at most 512 calls after it has been made": the last one is answered like the first. */
    private static void theFiveHundredTwelfthCall() {
        SameLetters x = new SameLetters();
        x.type(0x776f726420612030L, 8);
        x.type(0x203120323b202020L, 8);
        x.type(0x736861706520303bL, 8);
        Check.due("4: the fourth call", x.tongue(), 2);
        for (int call = 5; call <= 510; call++) {
            boolean isWrite = call % 2 == 1;
            Check.due("10, 11: call " + call, isWrite ? x.write(1) : x.undo(), isWrite ? 1 : 0);
        }
        Check.due("10: call 511", x.write(1), 1);
        Check.due("13: call 512", x.side(1), 2);
    }
}
