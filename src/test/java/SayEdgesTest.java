/** Promises 14 to 22 and what the terms say of what can be said: a test for each sentence that names an edge. */
public final class SayEdgesTest {
    private static final int BAD = -1, NONE = -9, NOT_SO_MANY = -5;
    private static final int LEAST = Integer.MIN_VALUE, MOST = Integer.MAX_VALUE;

    // From ab: ba 0; abc 1, a 1; abcd 2, ac 2, aabb 2; abcde 3; cd 4.
    private static final String NEAR = "word ab 0 3 0;word abc 0 2 0;word abcd 0 2 0;word abcde 0 9 0;word a 0 1 0;"
            + "word ac 0 0 0;word ba 0 0 0;word aabb 0 9 0;word cd 0 9 0;shape 0;";

    // Letters 1, 2, 4 answer one another: 2 is best of all, 4 is the next; 3 has no answer.
    private static final String FEW = "word ab 0 1 6;word ba 0 5 2;word c 0 9 9;word ab 0 3 4;shape 0;";

    public static void main(String[] args) {
        saysBelowMinusTwo();
        saysOfNoLetters();
        saysNotSoMany();
        saysByTheirNumbers();
        saysTheMostOwn();
        answersOfLettersThatAreNone();
        answersOfSlacksThatAreNone();
        answersOfOtherThings();
        answersAreUnlikeTheLetter();
        answersWithSlackNought();
        answersWithSlackOne();
        answersWithSlackTwo();
        slackIsOfAllSignsAdded();
        slackIsOfEachSign();
        bestHasTheMostOwn();
        bestOfSeveralIsTheLeast();
        bestOfNoneIsNone();
        bestMayBeOfNoWorth();
        muteOfOtherThings();
        muteNone();
        muteAll();
        muteFirstIsTheLeast();
        muteIsOfSlackNought();
        writeOfOtherThings();
        writeNoneHasAnAnswer();
        writeIsOfTheBestAnswer();
        writeOfSeveralIsTheLeast();
        writeMayBeOfNoWorth();
        barOfLettersThatAreNone();
        barOfSlacksThatAreNone();
        barOfNoAnswer();
        barOfNoSuchSign();
        barIsTheLeastSign();
        barIsOfTheAnswersAlone();
        chainOfLettersThatAreNone();
        chainOfNoughtToNinetyNine();
        chainOfNoAnswersIsTheLetter();
        chainEndsAhead();
        chainOfOneToNinetyNine();
        ringOfLettersThatAreNone();
        ringNone();
        ringOfItItself();
        ringOfAnotherThatCameAhead();
        alphabetOfOneToEightSigns();
        alphabetOfOtherThings();
        alphabetOfNoLetters();
        alphabetOfSeveralIsTheLeast();
        alphabetOfAllSigns();
        askedOfLettersThatAreNone();
        askedOfShapesThatAreNone();
        askedIsNotOfTheLetter();
        askedIsOfJustThatShape();
        askedOfLikeShapes();
        Check.end();
    }

    private static int[] lettersThatAreNone() {
        return new int[] {LEAST, -11, -2, -1, 0, 5, 9, 10, 11, 12, 101, 999, 1000, 1001, MOST};
    }

    // ---- promise 14

    /** "how many (i = -1), the most OWN (-2; NONE), the i-th ... BAD". */
    private static void saysBelowMinusTwo() {
        for (int i : new int[] {LEAST, LEAST + 1, -100, -9, -5, -4, -3}) {
            Check.due("14: says(" + i + ")", Check.told(FEW, 5).says(i), BAD);
            Check.due("14: says(" + i + ") of no tongue", new SameLetters().says(i), BAD);
        }
    }

    /** "(-2; NONE)"; "(-5: not so many)". */
    private static void saysOfNoLetters() {
        String[] texts = {"", "word a 0 9 9;", "shape 0;", "word a 0 9 9;shape 1;shape 0 1;"};
        int[] items = {0, 1, 1, 3};
        for (int t = 0; t < texts.length; t++) {
            SameLetters x = Check.told(texts[t], items[t]);
            Check.due("14: how many of «" + texts[t] + "»", x.says(-1), 0);
            Check.due("14: most of «" + texts[t] + "»", x.says(-2), NONE);
            Check.due("14: 0 of «" + texts[t] + "»", x.says(0), NOT_SO_MANY);
            Check.due("14: most i of «" + texts[t] + "»", x.says(MOST), NOT_SO_MANY);
        }
    }

    /** "the i-th (-5: not so many)". */
    private static void saysNotSoMany() {
        SameLetters x = Check.told(FEW, 5);
        Check.due("14: the last one", x.says(3), 4);
        for (int i : new int[] {4, 5, 818, 819, 1000, MOST}) {
            Check.due("14: says(" + i + ")", x.says(i), NOT_SO_MANY);
        }
        SameLetters all = Check.told("word a 0 0 0;".repeat(9) + "shape 0;shape 0 0;shape 0 0 0;", 12);
        Check.due("14: how many of all", all.says(-1), 819);
        Check.due("14: the last one of all", all.says(818), 999);
        Check.due("14: none behind all", all.says(819), NOT_SO_MANY);
    }

    /** "LETTERS go by these numbers". */
    private static void saysByTheirNumbers() {
        SameLetters x = Check.told("word a 0 0 0;word b 1 0 0;shape 1 0 1;shape 1;shape 0 1;shape 0;", 6);
        int[] due = {1, 2, 12, 212, NOT_SO_MANY};
        for (int i = 0; i < due.length; i++) {
            Check.due("14: says(" + i + ")", x.says(i), due[i]);
        }
    }

    /** "most OWN of any": of words that make no letter it does not count; it may be 0, and 27. */
    private static void saysTheMostOwn() {
        Check.due("14: 0 is not none", Check.told("word a 0 0 9;shape 0;", 2).says(-2), 0);
        Check.due("14: of letters alone", Check.told("word a 0 9 9;word b 1 2 9;shape 1;", 3).says(-2), 2);
        Check.due("14: of three words", Check.told("word a 0 9 0;shape 0 0 0;", 2).says(-2), 27);
        Check.due("14: of the first letter", Check.told("word a 0 4 0;word a 0 3 0;shape 0;", 3).says(-2), 4);
        Check.due("14: of the last letter", Check.told("word a 0 3 0;word a 0 4 0;shape 0;", 3).says(-2), 4);
    }

    // ---- promise 15

    /** "(a LETTER that is none: BAD)". */
    private static void answersOfLettersThatAreNone() {
        SameLetters x = Check.told(FEW, 5);
        for (int l : lettersThatAreNone()) {
            for (int slack = 0; slack <= 2; slack++) {
                Check.due("15: answers(" + l + ", " + slack + ", 0)", x.answers(l, slack, 0), BAD);
                Check.due("15: answers(" + l + ", " + slack + ", 1)", x.answers(l, slack, 1), BAD);
            }
        }
        Check.due("15: of no tongue", new SameLetters().answers(1, 0, 0), BAD);
    }

    /** "SLACK s (0 .. 2)". */
    private static void answersOfSlacksThatAreNone() {
        SameLetters x = Check.told(NEAR, 10);
        for (int slack : new int[] {LEAST, -3, -2, -1, 3, 4, 99, MOST}) {
            Check.due("15: slack " + slack, x.answers(1, slack, 0), BAD);
            Check.due("15: best of slack " + slack, x.answers(1, slack, 1), BAD);
        }
    }

    /** "how many (what = 0), BEST (1; NONE). BAD". */
    private static void answersOfOtherThings() {
        SameLetters x = Check.told(NEAR, 10);
        for (int what : new int[] {LEAST, -2, -1, 2, 3, MOST}) {
            for (int slack = 0; slack <= 2; slack++) {
                Check.due("15: what " + what, x.answers(1, slack, what), BAD);
            }
        }
    }

    /** "LETTERS unlike it": not the letter itself, though it has the most own; the like-spelled one, too. */
    private static void answersAreUnlikeTheLetter() {
        SameLetters x = Check.told("word ab 0 9 0;word ab 0 1 0;word c 0 9 9;shape 0;", 4);
        for (int slack = 0; slack <= 2; slack++) {
            Check.due("15: to the best one", x.answers(1, slack, 0), 1);
            Check.due("15: to the best one, best", x.answers(1, slack, 1), 2);
            Check.due("15: to the other one", x.answers(2, slack, 0), 1);
            Check.due("15: to the other one, best", x.answers(2, slack, 1), 1);
        }
    }

    /** "of which COUNTS differ from its by s at most": 0. */
    private static void answersWithSlackNought() {
        SameLetters x = Check.told(NEAR, 10);
        Check.due("15: many of 0", x.answers(1, 0, 0), 1);
        Check.due("15: best of 0", x.answers(1, 0, 1), 7);
        for (int l = 2; l <= 6; l++) {
            Check.due("15: many of 0 to " + l, x.answers(l, 0, 0), 0);
        }
    }

    /** "by s at most": 1 and 0, not 2. */
    private static void answersWithSlackOne() {
        SameLetters x = Check.told(NEAR, 10);
        Check.due("15: many of 1", x.answers(1, 1, 0), 3);
        Check.due("15: best of 1", x.answers(1, 1, 1), 2);
        Check.due("15: many of 1 to aabb", x.answers(8, 1, 0), 0);
        Check.due("15: many of 1 to cd", x.answers(9, 1, 0), 0);
        Check.due("15: a sign more, a sign less", x.answers(3, 1, 0), 2);
        Check.due("15: a sign more has most", x.answers(3, 1, 1), 4);
    }

    /** "by s at most": 2, 1 and 0, not 3. */
    private static void answersWithSlackTwo() {
        SameLetters x = Check.told(NEAR, 10);
        Check.due("15: many of 2", x.answers(1, 2, 0), 6);
        Check.due("15: best of 2", x.answers(1, 2, 1), 8);
        Check.due("15: many of 2 to aabb", x.answers(8, 2, 0), 2);
        Check.due("15: best of 2 to aabb", x.answers(8, 2, 1), 1);
        Check.due("15: many of 2 to cd", x.answers(9, 2, 0), 2);
        Check.due("15: best of 2 to cd", x.answers(9, 2, 1), 3);
    }

    /** "(of each SIGN how much, added)": what is more of one sign and less of another does not make up. */
    private static void slackIsOfAllSignsAdded() {
        SameLetters x = Check.told("word a 0 0 0;word h 0 0 0;word aa 0 0 0;word hh 0 0 0;word ah 0 0 0;shape 0;", 6);
        int[][] due = {{0, 2, 3}, {0, 2, 3}, {0, 1, 2}, {0, 1, 2}, {0, 2, 4}};
        for (int l = 1; l <= 5; l++) {
            for (int slack = 0; slack <= 2; slack++) {
                Check.due("15: to " + l + " with slack " + slack, x.answers(l, slack, 0), due[l - 1][slack]);
            }
        }
    }

    /** "(of each SIGN how much, ...)": of one sign two more are two. */
    private static void slackIsOfEachSign() {
        for (char sign = 'a'; sign <= 'h'; sign++) {
            String some = String.valueOf(sign);
            SameLetters x = Check.told("word " + some + " 0 0 0;word " + some.repeat(3) + " 0 0 0;word "
                    + some.repeat(4) + " 0 0 0;shape 0;", 4);
            Check.due("15: two more of " + sign + " with slack 1", x.answers(1, 1, 0), 0);
            Check.due("15: two more of " + sign + " with slack 2", x.answers(1, 2, 0), 1);
            Check.due("15: two less of " + sign + " with slack 2", x.answers(2, 2, 0), 2);
            Check.due("15: three less of " + sign + " with slack 2", x.answers(3, 2, 0), 1);
        }
    }

    /** "BEST: the one with the most OWN": not with most other, not the first, not the last. */
    private static void bestHasTheMostOwn() {
        SameLetters x = Check.told("word ab 0 1 9;word ba 0 3 0;word ab 0 5 1;word ba 0 4 9;word ab 0 0 9;shape 0;", 6);
        for (int l = 1; l <= 5; l++) {
            Check.due("15: best to " + l, x.answers(l, 0, 1), l == 3 ? 4 : 3);
            Check.due("19: best to " + l, x.chain(l, 1), l == 3 ? 4 : 3);
        }
        SameLetters y = Check.told("word ab 0 5 1;word ba 0 3 0;word ab 0 4 0;shape 0;", 4);
        Check.due("15: of the first two", y.answers(3, 0, 1), 1);
        Check.due("15: to the first, the last", y.answers(1, 0, 1), 3);
        Check.due("19: to the first, the last", y.chain(1, 1), 3);
    }

    /** "of several the least number". */
    private static void bestOfSeveralIsTheLeast() {
        SameLetters x = Check.told("word ab 0 2 0;word ba 0 5 0;word ab 0 5 0;word ba 0 5 0;shape 0;", 5);
        int[] due = {2, 3, 2, 2};
        for (int l = 1; l <= 4; l++) {
            for (int slack = 0; slack <= 2; slack++) {
                Check.due("15: best to " + l + " with slack " + slack, x.answers(l, slack, 1), due[l - 1]);
            }
            Check.due("19: best to " + l, x.chain(l, 1), due[l - 1]);
        }
    }

    /** "(1; NONE)". */
    private static void bestOfNoneIsNone() {
        SameLetters x = Check.told(FEW, 5);
        for (int slack = 0; slack <= 1; slack++) {
            Check.due("15: none with slack " + slack, x.answers(3, slack, 0), 0);
            Check.due("15: best of none with slack " + slack, x.answers(3, slack, 1), NONE);
        }
        SameLetters y = Check.told("word a 0 9 9;shape 0;", 2);
        Check.due("15: the one letter with slack 2", y.answers(1, 2, 0), 0);
        Check.due("15: best to the one letter with slack 2", y.answers(1, 2, 1), NONE);
    }

    /** The one with the most own may have 0. */
    private static void bestMayBeOfNoWorth() {
        SameLetters x = Check.told("word ab 0 0 0;word ba 0 0 0;shape 0;", 3);
        for (int slack = 0; slack <= 2; slack++) {
            Check.due("15: best to 1", x.answers(1, slack, 1), 2);
            Check.due("15: best to 2", x.answers(2, slack, 1), 1);
        }
    }

    // ---- promise 16

    /** "how many (what = 0), the first (1; NONE). BAD". */
    private static void muteOfOtherThings() {
        for (int what : new int[] {LEAST, -2, -1, 2, 3, MOST}) {
            Check.due("16: mute(" + what + ")", Check.told(FEW, 5).mute(what), BAD);
            Check.due("16: mute(" + what + ") of no tongue", new SameLetters().mute(what), BAD);
        }
    }

    /** "the first of them; NONE": no letters; each has an answer. */
    private static void muteNone() {
        SameLetters x = new SameLetters();
        SameLetters y = Check.told("word ab 0 0 0;word ba 0 0 0;shape 0;", 3);
        Check.due("16: of no letters", x.mute(0), 0);
        Check.due("16: first of no letters", x.mute(1), NONE);
        Check.due("16: of two that answer", y.mute(0), 0);
        Check.due("16: first of two that answer", y.mute(1), NONE);
    }

    /** "how many LETTERS have no ANSWER": all of them. */
    private static void muteAll() {
        SameLetters x = Check.told("word a 0 0 0;shape 0;shape 0 0;shape 0 0 0;", 4);
        Check.due("16: all", x.mute(0), 3);
        Check.due("16: the first", x.mute(1), 1);
        SameLetters y = Check.told("word a 1 0 0;word b 0 0 0;shape 0 0 0;", 3);
        Check.due("16: the last row", y.mute(0), 1);
        Check.due("16: the last row is the first", y.mute(1), 222);
    }

    /** "the first of them" is the one of the least number. */
    private static void muteFirstIsTheLeast() {
        SameLetters x = Check.told("word ab 0 0 0;word ba 0 0 0;word e 0 0 0;word d 0 9 9;shape 0;", 5);
        Check.due("16: two", x.mute(0), 2);
        Check.due("16: the first of two", x.mute(1), 3);
    }

    /** "(SLACK 0)". */
    private static void muteIsOfSlackNought() {
        SameLetters x = Check.told("word a 0 0 0;word ab 0 0 0;shape 0;", 3);
        Check.due("16: answered with slack", x.answers(1, 1, 0), 1);
        Check.due("16: mute for all that", x.mute(0), 2);
    }

    // ---- promise 17

    /** "the LETTER (what = 0), the OTHER (1); NONE. BAD". */
    private static void writeOfOtherThings() {
        for (int what : new int[] {LEAST, -2, -1, 2, 3, MOST}) {
            Check.due("17: best(" + what + ")", Check.told(FEW, 5).best(what), BAD);
            Check.due("17: best(" + what + ") of no tongue", new SameLetters().best(what), BAD);
        }
    }

    /** "NONE": no letters; none has an answer without slack. */
    private static void writeNoneHasAnAnswer() {
        String[] texts = {"", "word a 0 9 9;shape 0;", "word a 0 9 9;word ab 0 9 9;shape 0;shape 0 0;"};
        int[] items = {0, 2, 4};
        for (int what = 0; what <= 1; what++) {
            Check.due("17: of no tongue", new SameLetters().best(what), NONE);
            Check.due("17: of no letters", Check.told(texts[0], items[0]).best(what), NONE);
            Check.due("17: of one letter", Check.told(texts[1], items[1]).best(what), NONE);
        }
        SameLetters x = Check.told(texts[2], items[2]);
        Check.due("17: 12 and 21 alone have answers", x.best(0), 12);
        Check.due("17: their other", x.best(1), 18);
    }

    /** "that of which the BEST one has most OTHER": not its own other, not an answer's that is not best. */
    private static void writeIsOfTheBestAnswer() {
        SameLetters x = Check.told(FEW, 5);
        Check.due("17: the best one's answer has more", x.best(0), 2);
        Check.due("17: other of the best one's answer", x.best(1), 4);
        SameLetters y = Check.told("word ab 0 1 9;word ba 0 5 2;word ab 0 3 1;shape 0;", 4);
        Check.due("17: of the least", y.best(0), 1);
        Check.due("17: not the most other of all", y.best(1), 2);
    }

    /** "of several the least number". */
    private static void writeOfSeveralIsTheLeast() {
        SameLetters x = Check.told("word c 0 9 9;word ab 0 1 5;word ba 0 0 5;word ef 0 9 5;word fe 0 0 5;shape 0;", 6);
        Check.due("17: of four the least", x.best(0), 2);
        Check.due("17: other of four", x.best(1), 5);
        SameLetters y = Check.told("word ab 0 1 5;word ba 0 0 4;word ef 0 9 5;word fe 0 0 6;shape 0;", 5);
        Check.due("17: more, though not the least", y.best(0), 3);
        Check.due("17: other of more", y.best(1), 6);
    }

    /** The most other may be 0. */
    private static void writeMayBeOfNoWorth() {
        SameLetters x = Check.told("word c 0 9 9;word ab 0 1 0;word ba 0 1 0;shape 0;", 4);
        Check.due("17: of no worth", x.best(0), 2);
        Check.due("17: 0 is not none", x.best(1), 0);
    }

    // ---- promise 18

    /** "(a LETTER that is none: BAD)". */
    private static void barOfLettersThatAreNone() {
        SameLetters x = Check.told(FEW, 5);
        for (int l : lettersThatAreNone()) {
            for (int slack = 0; slack <= 2; slack++) {
                Check.due("18: bar(" + l + ", " + slack + ")", x.bar(l, slack), BAD);
            }
        }
        Check.due("18: of no tongue", new SameLetters().bar(1, 0), BAD);
    }

    /** "SLACK s (0 .. 2)". */
    private static void barOfSlacksThatAreNone() {
        SameLetters x = Check.told(FEW, 5);
        for (int slack : new int[] {LEAST, -3, -2, -1, 3, 4, 99, MOST}) {
            Check.due("18: slack " + slack, x.bar(1, slack), BAD);
            Check.due("18: no answers, slack " + slack, x.bar(3, slack), BAD);
        }
    }

    /** "-5: it has none". */
    private static void barOfNoAnswer() {
        SameLetters x = Check.told("word ab 0 0 0;word abc 0 0 0;word abcde 0 0 0;shape 0;", 4);
        int[][] due = {{-5, 0, 0}, {-5, 0, 0}, {-5, -5, 0}};
        for (int l = 1; l <= 3; l++) {
            for (int slack = 0; slack <= 2; slack++) {
                Check.due("18: bar(" + l + ", " + slack + ")", x.bar(l, slack), due[l - 1][slack]);
            }
        }
        SameLetters y = Check.told("word a 0 0 0;shape 0;", 2);
        Check.due("18: the one letter", y.bar(1, 2), -5);
    }

    /** "NONE: there is no such SIGN": two answers of two signs; with slack 1 two answers, too. */
    private static void barOfNoSuchSign() {
        SameLetters x = Check.told("word a 0 0 0;word b 0 0 0;word c 0 0 0;word bc 0 0 0;shape 0;", 5);
        Check.due("18: of b and c", x.bar(1, 2), NONE);
        Check.due("18: of b and c, to bc", x.bar(4, 1), NONE);
        Check.due("18: bc alone", x.bar(2, 1), 1);
        Check.due("18: none without slack", x.bar(1, 0), -5);
    }

    /** "the least SIGN that all its ANSWERS have": a, h, not the least one that some have. */
    private static void barIsTheLeastSign() {
        for (int sign = 0; sign < 8; sign++) {
            char letter = (char) ('a' + sign);
            SameLetters x = Check.told("word " + letter + " 0 0 0;word " + letter + " 0 0 0;shape 0;shape 0 0;", 4);
            Check.due("18: sign " + sign, x.bar(1, 0), sign);
            Check.due("18: sign " + sign + " of two words", x.bar(12, 0), sign);
        }
        SameLetters y = Check.told("word gh 0 0 0;word hg 0 0 0;word agh 0 0 0;word bhg 0 0 0;shape 0;", 5);
        Check.due("18: the lower of two", y.bar(1, 0), 6);
        Check.due("18: not a, not b", y.bar(1, 1), 6);
        SameLetters z = Check.told("word gh 0 0 0;word ah 0 0 0;word bh 0 0 0;shape 0;", 4);
        Check.due("18: h alone", z.bar(1, 2), 7);
    }

    /** "all its ANSWERS have": the letter itself does not matter. */
    private static void barIsOfTheAnswersAlone() {
        SameLetters x = Check.told("word b 0 0 0;word ab 0 0 0;word abc 0 0 0;shape 0;", 4);
        Check.due("18: a sign that the letter has not", x.bar(1, 1), 0);
        Check.due("18: two answers", x.bar(1, 2), 0);
        Check.due("18: of b and abc", x.bar(2, 1), 1);
    }

    // ---- promise 19

    /** "(a LETTER that is none: BAD)". */
    private static void chainOfLettersThatAreNone() {
        SameLetters x = Check.told(FEW, 5);
        for (int l : lettersThatAreNone()) {
            for (int n : new int[] {-1, 0, 1, 99, 100}) {
                Check.due("19: chain(" + l + ", " + n + ")", x.chain(l, n), BAD);
            }
        }
        Check.due("19: of no tongue", new SameLetters().chain(1, 0), BAD);
    }

    /** "CHAIN of n (0 .. 99)". */
    private static void chainOfNoughtToNinetyNine() {
        SameLetters x = Check.told(FEW, 5);
        for (int n : new int[] {LEAST, -2, -1, 100, 101, MOST}) {
            Check.due("19: of " + n, x.chain(1, n), BAD);
            Check.due("19: of " + n + ", mute", x.chain(3, n), BAD);
        }
        Check.due("19: of 99", x.chain(1, 99), 2);
        Check.due("19: of 98", x.chain(1, 98), 4);
    }

    /** "the LETTER then": of 0 it itself, a mute one, too. */
    private static void chainOfNoAnswersIsTheLetter() {
        SameLetters x = Check.told(FEW, 5);
        for (int l = 1; l <= 4; l++) {
            Check.due("19: of 0 from " + l, x.chain(l, 0), l);
        }
    }

    /** "NONE: it ends ahead". */
    private static void chainEndsAhead() {
        SameLetters x = Check.told(FEW, 5);
        for (int n : new int[] {1, 2, 3, 50, 98, 99}) {
            Check.due("19: of " + n, x.chain(3, n), NONE);
        }
    }

    /** "each the BEST one": 1 to 2, 2 to 4, 4 to 2. */
    private static void chainOfOneToNinetyNine() {
        SameLetters x = Check.told(FEW, 5);
        for (int n = 1; n <= 99; n++) {
            Check.due("19: of " + n + " from 1", x.chain(1, n), n % 2 == 1 ? 2 : 4);
            Check.due("19: of " + n + " from 2", x.chain(2, n), n % 2 == 1 ? 4 : 2);
        }
    }

    // ---- promise 20

    /** "(a LETTER that is none: BAD)". */
    private static void ringOfLettersThatAreNone() {
        SameLetters x = Check.told(FEW, 5);
        for (int l : lettersThatAreNone()) {
            Check.due("20: ring(" + l + ")", x.ring(l), BAD);
        }
        Check.due("20: of no tongue", new SameLetters().ring(1), BAD);
    }

    /** "NONE": the chain ends. */
    private static void ringNone() {
        Check.due("20: mute", Check.told(FEW, 5).ring(3), NONE);
        Check.due("20: answered with slack alone", Check.told(NEAR, 10).ring(2), NONE);
    }

    /** "a LETTER comes that came ahead (it itself, too)". */
    private static void ringOfItItself() {
        SameLetters x = Check.told(FEW, 5);
        Check.due("20: the best one", x.ring(2), 2);
        Check.due("20: the next one", x.ring(4), 2);
        SameLetters y = Check.told("word ab 0 0 0;word ba 0 0 0;shape 0;", 3);
        Check.due("20: of two, 1", y.ring(1), 2);
        Check.due("20: of two, 2", y.ring(2), 2);
    }

    /**
     * "behind how many ANSWERS at least". Of letters of the same counts the best one and the next one answer each
     * other, so that no ring is reached later than this: the bound of 99 can't be seen.
     */
    private static void ringOfAnotherThatCameAhead() {
        Check.due("20: ahead of the ring", Check.told(FEW, 5).ring(1), 3);
        SameLetters y = Check.told("word a 0 0 0;".repeat(9) + "shape 0 0 0;", 10);
        Check.due("20: the first of all", y.ring(111), 2);
        Check.due("20: the second of all", y.ring(112), 2);
        Check.due("20: the third of all", y.ring(113), 3);
        Check.due("20: the last of all", y.ring(999), 3);
    }

    // ---- promise 21

    /** "ALPHABET of k (1 .. 8) SIGNS". */
    private static void alphabetOfOneToEightSigns() {
        for (int k : new int[] {LEAST, -2, -1, 0, 9, 10, 255, MOST}) {
            for (int what = 0; what <= 1; what++) {
                Check.due("21: alphabet(" + k + ", " + what + ")", Check.told(FEW, 5).alphabet(k, what), BAD);
                Check.due("21: alphabet(" + k + ", " + what + ") of no tongue",
                        new SameLetters().alphabet(k, what), BAD);
            }
        }
        SameLetters x = Check.told("word ab 0 0 0;word bc 0 0 0;word ca 0 0 0;word h 0 0 0;shape 0;shape 0 0;", 6);
        int[] sets = {128, 3, 7, 135, 143, 159, 191, 255};
        int[] many = {2, 2, 12, 20, 20, 20, 20, 20};
        for (int k = 1; k <= 8; k++) {
            Check.due("21: set of " + k, x.alphabet(k, 0), sets[k - 1]);
            Check.due("21: letters of " + k, x.alphabet(k, 1), many[k - 1]);
        }
    }

    /** "the set (what = 0), how many LETTERS (1). BAD". */
    private static void alphabetOfOtherThings() {
        SameLetters x = Check.told(FEW, 5);
        for (int what : new int[] {LEAST, -2, -1, 2, 3, MOST}) {
            for (int k = 1; k <= 8; k++) {
                Check.due("21: alphabet(" + k + ", " + what + ")", x.alphabet(k, what), BAD);
            }
        }
    }

    /** Of no letters, and of none that few signs write: 0, and of all sets the least. */
    private static void alphabetOfNoLetters() {
        SameLetters x = new SameLetters();
        SameLetters y = Check.told("word abcd 0 0 0;word efgh 0 0 0;shape 0 0;shape 1;", 4);
        for (int k = 1; k <= 8; k++) {
            Check.due("21: set of " + k + " of no letters", x.alphabet(k, 0), (1 << k) - 1);
            Check.due("21: letters of " + k + " of no letters", x.alphabet(k, 1), 0);
        }
        for (int k = 1; k <= 3; k++) {
            Check.due("21: set of " + k + ", too few", y.alphabet(k, 0), (1 << k) - 1);
            Check.due("21: letters of " + k + ", too few", y.alphabet(k, 1), 0);
        }
        Check.due("21: set of 4", y.alphabet(4, 0), 15);
        Check.due("21: letters of 4", y.alphabet(4, 1), 1);
    }

    /** "of several the least bits"; "a the lowest". */
    private static void alphabetOfSeveralIsTheLeast() {
        SameLetters x = Check.told("word h 0 0 0;word b 0 0 0;word d 0 0 0;word gf 0 0 0;shape 0;", 5);
        int[] sets = {2, 10, 138, 106, 234, 235, 239, 255};
        int[] many = {1, 2, 3, 3, 4, 4, 4, 4};
        for (int k = 1; k <= 8; k++) {
            Check.due("21: of several, set of " + k, x.alphabet(k, 0), sets[k - 1]);
            Check.due("21: of several, letters of " + k, x.alphabet(k, 1), many[k - 1]);
        }
    }

    /** Of 8 signs there is one set, in which all letters can be written. */
    private static void alphabetOfAllSigns() {
        SameLetters x = Check.told("word abcde 0 0 0;word fgh 0 0 0;word a 0 0 0;shape 0 0;shape 0 0 0;", 5);
        Check.due("21: all signs", x.alphabet(8, 0), 255);
        Check.due("21: all letters", x.alphabet(8, 1), 9 + 27);
        Check.due("21: all signs but h", x.alphabet(7, 0), 127);
        Check.due("21: all letters of a to e", x.alphabet(7, 1), 4 + 8);
        Check.due("21: a alone", x.alphabet(1, 1), 2);
    }

    // ---- promise 22

    /** "(a LETTER that is none: BAD)". */
    private static void askedOfLettersThatAreNone() {
        SameLetters x = Check.told(FEW, 5);
        for (int l : lettersThatAreNone()) {
            for (int s : new int[] {-1, 0, 1}) {
                Check.due("22: asked(" + l + ", " + s + ")", x.asked(l, s), BAD);
            }
        }
        Check.due("22: of no tongue", new SameLetters().asked(1, 0), BAD);
    }

    /** "of a SHAPE (by its number ...)"; "there is no such thing". */
    private static void askedOfShapesThatAreNone() {
        SameLetters one = Check.told(FEW, 5);
        for (int s : new int[] {LEAST, -2, -1, 1, 2, 3, 4, MOST}) {
            Check.due("22: shape " + s + " of one", one.asked(1, s), BAD);
        }
        SameLetters four = Check.told("word a 0 0 0;word a 0 0 0;shape 1;shape 2;shape 1 2;shape 0;", 6);
        for (int s : new int[] {LEAST, -2, -1, 4, 5, MOST}) {
            Check.due("22: shape " + s + " of four", four.asked(1, s), BAD);
        }
        Check.due("22: the last of four", four.asked(1, 3), 1);
        Check.due("22: the first of four, of which no letter is", four.asked(1, 0), 0);
    }

    /** "how many LETTERS a LETTER can ANSWER": unlike it, without slack. */
    private static void askedIsNotOfTheLetter() {
        SameLetters x = Check.told(FEW, 5);
        Check.due("22: two others", x.asked(1, 0), 2);
        Check.due("22: none", x.asked(3, 0), 0);
        SameLetters y = Check.told(NEAR, 10);
        Check.due("22: without slack", y.asked(1, 0), 1);
        Check.due("22: with slack alone", y.asked(2, 0), 0);
    }

    /** "all its KINDS are just that SHAPE's": not fewer, not more, not in another order. */
    private static void askedIsOfJustThatShape() {
        SameLetters x = Check.told("word ab 0 0 0;word a 1 0 0;word b 2 0 0;word b 1 0 0;"
                + "shape 0;shape 1 2;shape 1;shape 2 1;", 8);
        int[] due = {0, 1, 0, 1};
        for (int s = 0; s < 4; s++) {
            Check.due("22: shape " + s, x.asked(1, s), due[s]);
        }
        Check.due("22: its own shape's other order", x.asked(23, 3), 1);
        Check.due("22: its own shape", x.asked(23, 1), 0);
        Check.due("22: a shorter shape", x.asked(23, 0), 1);
    }

    /** "(by its number; whatever other SHAPES there are)": each of two like shapes has all of them. */
    private static void askedOfLikeShapes() {
        SameLetters x = Check.told("word a 0 0 0;word a 0 0 0;word a 0 0 0;shape 0;shape 0 0;shape 0;shape 0 0 0;", 7);
        int[] due = {2, 0, 2, 0};
        int[] ofTwo = {0, 8, 0, 0};
        for (int s = 0; s < 4; s++) {
            Check.due("22: shape " + s, x.asked(1, s), due[s]);
            Check.due("22: shape " + s + " of two words", x.asked(11, s), ofTwo[s]);
        }
    }
}
