import java.util.List;

/** Promises 5 to 9 and what the terms say of words, shapes and letters: a test for each sentence that names an edge. */
public final class LetterEdgesTest {
    private static final int BAD = -1, NOT_SO_MANY = -5;
    private static final int LEAST = Integer.MIN_VALUE, MOST = Integer.MAX_VALUE;

    public static void main(String[] args) {
        wordsThatAreNone();
        wordIsAskedFourThings();
        spellOfWordsThatAreNone();
        spellFromNought();
        spellNotSoMany();
        spellBadAheadOfNotSoMany();
        shapesThatAreNone();
        shapeFromNought();
        shapeNotSoMany();
        shapeBadAheadOfNotSoMany();
        lettersOfOneWord();
        lettersOfTwoWords();
        lettersOfThreeWords();
        lettersOfNineWords();
        theLikeMayBeThereTwice();
        rowsThatAreNoLetter();
        kindsOneBehindAnother();
        likeShapesMakeALetterOnce();
        noWordsOrNoShapes();
        letterIsAskedThreeThings();
        leastAndMostOfALetter();
        hasOfSignsThatAreNone();
        hasOfAllItsWords();
        hasOfEachSignAlone();
        hasOfLettersThatAreNone();
        Check.end();
    }

    private static SameLetters nineWords() {
        return Check.told("word a 0 1 9;word bb 1 2 8;word ccc 2 3 7;word dddd 0 4 6;word eeeee 1 5 5;word f 2 6 4;"
                + "word gg 0 7 3;word hhh 1 8 2;word abcd 2 9 1;", 9);
    }

    // ---- promise 5

    /** "BAD": "there is no such thing". */
    private static void wordsThatAreNone() {
        SameLetters none = new SameLetters();
        SameLetters two = Check.told("word a 0 0 0;word a 0 0 0;shape 0;", 3);
        SameLetters nine = nineWords();
        for (int what = 0; what <= 3; what++) {
            for (int w : new int[] {LEAST, -1, 0, 1, 9, MOST}) {
                Check.due("5: word(" + w + ", " + what + ") of none", none.word(w, what), BAD);
            }
            for (int w : new int[] {LEAST, -1, 2, 3, 9, MOST}) {
                Check.due("5: word(" + w + ", " + what + ") of two", two.word(w, what), BAD);
            }
            for (int w : new int[] {LEAST, -1, 9, 10, MOST}) {
                Check.due("5: word(" + w + ", " + what + ") of nine", nine.word(w, what), BAD);
            }
        }
    }

    /** "0 how many SIGNS, 1 KIND, 2 OWN, 3 OTHER". */
    private static void wordIsAskedFourThings() {
        SameLetters x = nineWords();
        int[] signs = {1, 2, 3, 4, 5, 1, 2, 3, 4};
        for (int w = 0; w < 9; w++) {
            Check.due("5: signs of " + w, x.word(w, 0), signs[w]);
            Check.due("5: kind of " + w, x.word(w, 1), w % 3);
            Check.due("5: own of " + w, x.word(w, 2), w + 1);
            Check.due("5: other of " + w, x.word(w, 3), 9 - w);
            for (int what : new int[] {LEAST, -1, 4, MOST}) {
                Check.due("5: word(" + w + ", " + what + ")", x.word(w, what), BAD);
            }
        }
    }

    // ---- promise 6

    /** "BAD": "there is no such thing". */
    private static void spellOfWordsThatAreNone() {
        SameLetters x = Check.told("word a 0 0 0;word a 0 0 0;", 2);
        for (int i : new int[] {LEAST, -1, 0, 1, 5, MOST}) {
            for (int w : new int[] {LEAST, -1, 2, 8, 9, MOST}) {
                Check.due("6: spell(" + w + ", " + i + ")", x.spell(w, i), BAD);
            }
            Check.due("6: spell(0, " + i + ") of none", new SameLetters().spell(0, i), BAD);
            Check.due("6: spell(9, " + i + ") of nine", nineWords().spell(9, i), BAD);
        }
    }

    /** "(0 a .. 7 h; i from 0)". */
    private static void spellFromNought() {
        SameLetters x = Check.told("word hgfed 0 0 0;word cba 0 0 0;", 2);
        for (int i = 0; i < 5; i++) {
            Check.due("6: sign " + i + " of word 0", x.spell(0, i), 7 - i);
        }
        for (int i = 0; i < 3; i++) {
            Check.due("6: sign " + i + " of word 1", x.spell(1, i), 2 - i);
        }
    }

    /** "-5: not so many". */
    private static void spellNotSoMany() {
        for (int signs = 1; signs <= 5; signs++) {
            SameLetters x = Check.told("word " + "h".repeat(signs) + " 0 0 0;", 1);
            Check.due("6: the last sign of " + signs, x.spell(0, signs - 1), 7);
            for (int i : new int[] {signs, signs + 1, 5, 6, 200, MOST}) {
                Check.due("6: sign " + i + " of " + signs, x.spell(0, i), NOT_SO_MANY);
            }
        }
    }

    /** "BAD (i below 0)". */
    private static void spellBadAheadOfNotSoMany() {
        SameLetters x = Check.told("word a 0 0 0;", 1);
        for (int i : new int[] {LEAST, -200, -5, -2, -1}) {
            Check.due("6: sign " + i, x.spell(0, i), BAD);
        }
    }

    // ---- promise 7

    /** "BAD": "there is no such thing". */
    private static void shapesThatAreNone() {
        SameLetters two = Check.told("shape 0;shape 1;word a 0 0 0;", 3);
        SameLetters four = Check.told("shape 0;shape 1;shape 0;shape 1;", 4);
        for (int i : new int[] {LEAST, -1, 0, 1, 3, MOST}) {
            for (int s : new int[] {LEAST, -1, 2, 3, 4, MOST}) {
                Check.due("7: shape(" + s + ", " + i + ") of two", two.shape(s, i), BAD);
            }
            for (int s : new int[] {LEAST, -1, 4, 5, MOST}) {
                Check.due("7: shape(" + s + ", " + i + ") of four", four.shape(s, i), BAD);
            }
            Check.due("7: shape(0, " + i + ") of none", new SameLetters().shape(0, i), BAD);
        }
    }

    /** "The i-th KIND of a SHAPE (i from 0)". */
    private static void shapeFromNought() {
        SameLetters x = Check.told("shape 2 1 0;shape 0 2;shape 1;shape 2 2 2;", 4);
        int[][] due = {{2, 1, 0}, {0, 2}, {1}, {2, 2, 2}};
        for (int s = 0; s < 4; s++) {
            for (int i = 0; i < due[s].length; i++) {
                Check.due("7: kind " + i + " of shape " + s, x.shape(s, i), due[s][i]);
            }
        }
    }

    /** "-5: not so many". */
    private static void shapeNotSoMany() {
        for (int kinds = 1; kinds <= 3; kinds++) {
            SameLetters x = Check.told("shape" + " 2".repeat(kinds) + ";", 1);
            Check.due("7: the last kind of " + kinds, x.shape(0, kinds - 1), 2);
            for (int i : new int[] {kinds, kinds + 1, 3, 4, 200, MOST}) {
                Check.due("7: kind " + i + " of " + kinds, x.shape(0, i), NOT_SO_MANY);
            }
        }
    }

    /** "BAD (i below 0)". */
    private static void shapeBadAheadOfNotSoMany() {
        SameLetters x = Check.told("shape 0;", 1);
        for (int i : new int[] {LEAST, -200, -5, -2, -1}) {
            Check.due("7: kind " + i, x.shape(0, i), BAD);
        }
    }

    // ---- what is a letter

    /** Asks of every number from -1200 to 2300 and of some beyond whether it is a letter. */
    private static void lettersAre(String text, int items, List<Integer> due) {
        SameLetters x = null;
        for (int l = -1200; l <= 2300; l++) {
            // An object answers 512 calls alone.
            x = l % 400 == 0 ? Check.told(text, items) : x;
            int answer = x.letter(l, 2);
            Check.holds("8: letter(" + l + ") of «" + text + "»", due.contains(l) ? answer > 0 : answer == BAD);
        }
        int[] beyond = {LEAST, LEAST + 1, LEAST + 11, -100001, 9999, 10001, 11111, 1000001, 111111111, MOST - 1, MOST};
        for (int l : beyond) {
            Check.due("8: letter(" + l + ") of «" + text + "»", x.letter(l, 2), BAD);
        }
        Check.due("14: how many of «" + text + "»", x.says(-1), due.size());
        for (int i = 0; i < due.size() && i < 50; i++) {
            Check.due("14: the " + i + "th of «" + text + "»", x.says(i), due.get(i));
        }
    }

    /** "a row of 1 to 3 WORDS": one; "each WORD a figure (WORD and 1: 1 .. 9)". */
    private static void lettersOfOneWord() {
        lettersAre("word a 0 0 0;word a 1 0 0;word a 0 0 0;shape 0;", 4, List.of(1, 3));
        lettersAre("word a 2 0 0;shape 2;", 2, List.of(1));
    }

    /** "a row of 1 to 3 WORDS": two; "the first one the highest". */
    private static void lettersOfTwoWords() {
        lettersAre("word a 0 0 0;word a 1 0 0;word a 0 0 0;shape 0 1;", 4, List.of(12, 32));
    }

    /** "a row of 1 to 3 WORDS": three, not four. */
    private static void lettersOfThreeWords() {
        lettersAre("word a 0 0 0;word a 1 0 0;word a 2 0 0;shape 2 0 1;", 4, List.of(312));
        lettersAre("word a 0 0 0;shape 0 0 0;", 2, List.of(111));
        lettersAre("word a 0 0 0;shape 0 0 0;shape 0;shape 0 0;", 4, List.of(1, 11, 111));
    }

    /** "each WORD a figure (WORD and 1: 1 .. 9)": the ninth word. */
    private static void lettersOfNineWords() {
        String words = "word a 1 0 0;".repeat(8) + "word h 0 0 0;";
        lettersAre(words + "shape 0;shape 0 0;shape 0 0 0;shape 0 1 0;", 13,
                List.of(9, 99, 919, 929, 939, 949, 959, 969, 979, 989, 999));
        lettersAre(words + "shape 1;shape 0 1;", 11,
                List.of(1, 2, 3, 4, 5, 6, 7, 8, 91, 92, 93, 94, 95, 96, 97, 98));
    }

    /** "(the like may be there twice)". */
    private static void theLikeMayBeThereTwice() {
        lettersAre("word a 0 0 0;word b 0 0 0;shape 0 0;", 3, List.of(11, 12, 21, 22));
        lettersAre("word a 0 0 0;word b 0 0 0;shape 0 0 0;", 3, List.of(111, 112, 121, 122, 211, 212, 221, 222));
    }

    /** "BAD (it is none)": a figure 0, a figure of no word, a figure too many. */
    private static void rowsThatAreNoLetter() {
        SameLetters x = Check.told("word a 0 0 0;word b 0 0 0;shape 0;shape 0 0;shape 0 0 0;", 5);
        int[] none = {LEAST, -111, -12, -1, 0, 3, 9, 10, 13, 20, 30, 31, 100, 101, 102, 110, 113, 120, 131, 200, 220,
            311, 1000, 1001, 1011, 1110, 1111, 2222, MOST};
        for (int l : none) {
            for (int what = 0; what <= 2; what++) {
                Check.due("8: letter(" + l + ", " + what + ")", x.letter(l, what), BAD);
            }
        }
        Check.due("8: all that are", x.says(-1), 2 + 4 + 8);
    }

    /** "whose KINDS are some SHAPE"; "KINDS one behind another": not fewer, not more, not in another order. */
    private static void kindsOneBehindAnother() {
        lettersAre("word a 0 0 0;word b 1 0 0;shape 0 1 0;", 3, List.of(121));
        lettersAre("word a 0 0 0;word b 1 0 0;shape 1 0;", 3, List.of(21));
        lettersAre("word a 0 0 0;word b 1 0 0;word c 2 0 0;shape 0 1 2;shape 2;shape 0 0;", 6, List.of(3, 11, 123));
    }

    /** A letter is a row whose kinds are SOME shape: of two like shapes it is the same. */
    private static void likeShapesMakeALetterOnce() {
        lettersAre("word a 0 0 0;shape 0;shape 0;shape 0;shape 0;", 5, List.of(1));
    }

    /** No words, no shapes, no word of the kind: no letters. */
    private static void noWordsOrNoShapes() {
        lettersAre("", 0, List.of());
        lettersAre("shape 0;shape 0 1 2;", 2, List.of());
        lettersAre("word a 0 0 0;word b 1 0 0;", 2, List.of());
        lettersAre("word a 0 0 0;word b 1 0 0;shape 2;shape 0 2;shape 2 0 1;", 5, List.of());
    }

    // ---- promise 8

    /** "0 OWN, 1 OTHER, 2 how many SIGNS". */
    private static void letterIsAskedThreeThings() {
        SameLetters x = Check.told("word ab 0 1 2;word aab 0 3 5;shape 0;shape 0 0;shape 0 0 0;", 5);
        int[][] due = {{1, 1, 2, 2}, {2, 3, 5, 3}, {11, 2, 4, 4}, {12, 4, 7, 5}, {22, 6, 10, 6}, {111, 3, 6, 6},
            {121, 5, 9, 7}, {212, 7, 12, 8}, {222, 9, 15, 9}};
        for (int[] row : due) {
            for (int what = 0; what <= 2; what++) {
                Check.due("8: letter(" + row[0] + ", " + what + ")", x.letter(row[0], what), row[what + 1]);
            }
            for (int what : new int[] {LEAST, -1, 3, MOST}) {
                Check.due("8: letter(" + row[0] + ", " + what + ")", x.letter(row[0], what), BAD);
            }
        }
    }

    /** A letter has 0 to 27 of own and other, and 1 to 15 signs. */
    private static void leastAndMostOfALetter() {
        SameLetters x = Check.told("word a 0 0 0;word bcdef 1 9 9;shape 0;shape 1 1 1;", 4);
        int[] least = {0, 0, 1};
        int[] most = {27, 27, 15};
        for (int what = 0; what <= 2; what++) {
            Check.due("8: least of " + what, x.letter(1, what), least[what]);
            Check.due("8: most of " + what, x.letter(222, what), most[what]);
        }
    }

    // ---- promise 9

    /** "BAD": a sign is 0 .. 7. */
    private static void hasOfSignsThatAreNone() {
        SameLetters x = Check.told("word abcde 0 0 0;word fgh 0 0 0;shape 0 0;", 3);
        for (int sign : new int[] {LEAST, -8, -1, 8, 9, 15, 32, 64, 97, MOST}) {
            Check.due("9: sign " + sign, x.has(12, sign), BAD);
        }
        for (int sign = 0; sign <= 7; sign++) {
            Check.due("9: sign " + sign, x.has(12, sign), 1);
        }
    }

    /** "COUNT: how often it has each SIGN, of all its WORDS": the like words each time. */
    private static void hasOfAllItsWords() {
        SameLetters x = Check.told("word aab 0 0 0;word bha 0 0 0;shape 0;shape 0 0;shape 0 0 0;", 5);
        int[][] due = {{1, 2, 1, 0}, {2, 1, 1, 1}, {11, 4, 2, 0}, {12, 3, 2, 1}, {21, 3, 2, 1}, {111, 6, 3, 0},
            {121, 5, 3, 1}, {222, 3, 3, 3}};
        for (int[] row : due) {
            Check.due("9: a in " + row[0], x.has(row[0], 0), row[1]);
            Check.due("9: b in " + row[0], x.has(row[0], 1), row[2]);
            Check.due("9: h in " + row[0], x.has(row[0], 7), row[3]);
            Check.due("9: c in " + row[0], x.has(row[0], 2), 0);
        }
    }

    /** A sign may be there fifteen times, and another one not at all. */
    private static void hasOfEachSignAlone() {
        for (int sign = 0; sign < 8; sign++) {
            String five = String.valueOf((char) ('a' + sign)).repeat(5);
            SameLetters x = Check.told("word " + five + " 0 0 0;shape 0 0 0;", 2);
            for (int asked = 0; asked < 8; asked++) {
                Check.due("9: sign " + asked + " in fifteen of " + sign, x.has(111, asked), asked == sign ? 15 : 0);
            }
        }
    }

    /** "BAD": a letter that is none. */
    private static void hasOfLettersThatAreNone() {
        SameLetters x = Check.told("word a 0 0 0;word b 1 0 0;shape 0;shape 0 0;", 4);
        for (int l : new int[] {LEAST, -11, -1, 0, 2, 3, 10, 12, 21, 22, 101, 111, 1000, 1011, MOST}) {
            for (int sign : new int[] {-1, 0, 7, 8}) {
                Check.due("9: has(" + l + ", " + sign + ")", x.has(l, sign), BAD);
            }
            Check.due("9: has(" + l + ", 0) of no tongue", new SameLetters().has(l, 0), BAD);
        }
    }
}
