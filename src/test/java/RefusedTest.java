import java.util.function.ToLongFunction;

/**
 * "Refused, and nothing changes, the first of these: BAD (a number is not as told, or there is no such thing), STATE
 * (as told), FULL": each call that can be refused, and those that ask alone where they are answered, too, with all that
 * can be seen of the object behind it.
 */
public final class RefusedTest {
    private static final int BAD = -1, STATE = -2, FULL = -3, NO = -1000000;
    private static final int LEAST = Integer.MIN_VALUE, MOST = Integer.MAX_VALUE;

    private static final String SMALL =
            "word dad 0 1 2;word add 0 5 2;word fad 1 4 0;word daf 1 1 3;word cab 1 8 8;word be 2 9 9;"
            + "shape 0;shape 1 0;shape 0 0;";
    private static final String NEXT = "word ha 2 3 4;shape 2 2;shape 2;";

    private static final Past NEW = new Past("new", x -> { });
    private static final Past TOLD = new Past("told", RefusedTest::tell);
    private static final Past SOME = new Past("at its third letter", RefusedTest::writeSome);
    private static final Past FULLY = new Past("full", RefusedTest::writeTwelve);
    private static final Past[] ALL = {NEW, TOLD, SOME, FULLY};
    private static final Past[] WITH_WORDS = {TOLD, SOME, FULLY};

    public static void main(String[] args) {
        typeBad();
        typeFull();
        tongueFault();
        wordBad();
        spellBad();
        shapeBad();
        letterBad();
        hasBad();
        writeBad();
        writeState();
        writeFull();
        undoState();
        wroteBad();
        sideBad();
        saysBad();
        answersBad();
        muteBad();
        bestBad();
        barBad();
        chainBad();
        ringBad();
        alphabetBad();
        askedBad();
        rateBad();
        keepBad();
        backBad();
        backState();
        countBad();
        askingTheTongueChangesNothing();
        askingTheWrittenChangesNothing();
        askingWhatCanBeSaidChangesNothing();
        Check.end();
    }

    private static void tell(SameLetters x) {
        Check.typed(x, SMALL);
        x.tongue();
    }

    private static void writeSome(SameLetters x) {
        tell(x);
        x.rate(3, 0);
        x.write(41);
        x.keep(0);
        x.write(31);
        x.write(42);
        Check.typed(x, NEXT);
    }

    private static void writeTwelve(SameLetters x) {
        tell(x);
        x.rate(4, 5);
        x.keep(1);
        for (int i = 0; i < 12; i++) {
            x.write(i % 2 == 0 ? 32 : 41);
        }
        x.keep(0);
        Check.typed(x, NEXT + " ".repeat(200 - NEXT.length()));
    }

    private static void unchanged(Past[] pasts, String what, ToLongFunction<SameLetters> call, long due) {
        for (Past past : pasts) {
            past.unchangedBy(what, call, due);
        }
    }

    private static int[] noLetters() {
        return new int[] {LEAST, -41, -1, 0, 3, 7, 10, 14, 40, 61, 101, 141, 999, 1000, 1041, MOST};
    }

    private static int[] noWords() {
        return new int[] {LEAST, -1, 6, 9, MOST};
    }

    private static void typeBad() {
        for (int n : new int[] {LEAST, -1, 0, 9, 64, MOST}) {
            unchanged(ALL, "type(.., " + n + ")", x -> x.type(0x7e7e7e7e7e7e7e7eL, n), BAD);
        }
    }

    private static void typeFull() {
        for (int n = 1; n <= 8; n++) {
            int bytes = n;
            FULLY.unchangedBy("type(.., " + n + ")", x -> x.type(0x7e7e7e7e7e7e7e7eL, bytes), FULL);
            Past room = new Past("but for " + (n - 1) + " bytes full", x -> {
                tell(x);
                Check.typed(x, NEXT + " ".repeat(201 - bytes - NEXT.length()));
            });
            room.unchangedBy("type(.., " + n + ")", x -> x.type(0x7e7e7e7e7e7e7e7eL, bytes), FULL);
        }
    }

    private static void tongueFault() {
        String[] texts = {"~", "shape", "word h 2 9 9;shape 2 2;shape 4;", "word h 2 9 9", "shape 0;;",
            "word abcdef 0 0 0;", "word ha 1 2 3;word gh 0 10 0;", "shape 1 1 1 1;", "word h 0 0 0;".repeat(10),
            "word h 1 1 1;shape 2;shape 1;shape 0;shape 1 2;shape 0;", "shape 1;" + " ".repeat(190) + "00"};
        int[] places = {0, 5, 29, 12, 8, 5, 24, 12, 117, 47, 198};
        for (int i = 0; i < texts.length; i++) {
            String text = texts[i];
            Past[] pasts = {new Past("told nothing", x -> Check.typed(x, text)), new Past("told", x -> {
                tell(x);
                Check.typed(x, text);
            }), new Past("at its third letter", x -> {
                writeSome(x);
                x.clear();
                Check.typed(x, text);
            })};
            unchanged(pasts, "tongue() of «" + text + "»", SameLetters::tongue, -10 - places[i]);
        }
    }

    private static void wordBad() {
        for (int w : noWords()) {
            unchanged(ALL, "word(" + w + ", 0)", x -> x.word(w, 0), BAD);
        }
        for (int what : new int[] {LEAST, -1, 4, MOST}) {
            unchanged(ALL, "word(0, " + what + ")", x -> x.word(0, what), BAD);
        }
        NEW.unchangedBy("word(0, 0)", x -> x.word(0, 0), BAD);
    }

    private static void spellBad() {
        for (int w : noWords()) {
            unchanged(ALL, "spell(" + w + ", 0)", x -> x.spell(w, 0), BAD);
        }
        unchanged(ALL, "spell(0, -1)", x -> x.spell(0, -1), BAD);
        unchanged(ALL, "spell(0, least)", x -> x.spell(0, LEAST), BAD);
        NEW.unchangedBy("spell(0, 0)", x -> x.spell(0, 0), BAD);
    }

    private static void shapeBad() {
        for (int s : new int[] {LEAST, -1, 3, 4, MOST}) {
            unchanged(ALL, "shape(" + s + ", 0)", x -> x.shape(s, 0), BAD);
        }
        unchanged(ALL, "shape(0, -1)", x -> x.shape(0, -1), BAD);
        unchanged(ALL, "shape(0, least)", x -> x.shape(0, LEAST), BAD);
        NEW.unchangedBy("shape(0, 0)", x -> x.shape(0, 0), BAD);
    }

    private static void letterBad() {
        for (int l : noLetters()) {
            unchanged(ALL, "letter(" + l + ", 0)", x -> x.letter(l, 0), BAD);
        }
        for (int what : new int[] {LEAST, -1, 3, MOST}) {
            unchanged(ALL, "letter(41, " + what + ")", x -> x.letter(41, what), BAD);
        }
        NEW.unchangedBy("letter(1, 0)", x -> x.letter(1, 0), BAD);
    }

    private static void hasBad() {
        for (int l : noLetters()) {
            unchanged(ALL, "has(" + l + ", 0)", x -> x.has(l, 0), BAD);
        }
        for (int sign : new int[] {LEAST, -1, 8, MOST}) {
            unchanged(ALL, "has(41, " + sign + ")", x -> x.has(41, sign), BAD);
        }
        NEW.unchangedBy("has(1, 0)", x -> x.has(1, 0), BAD);
    }

    private static void writeBad() {
        for (int l : noLetters()) {
            unchanged(ALL, "write(" + l + ")", x -> x.write(l), BAD);
        }
        NEW.unchangedBy("write(1)", x -> x.write(1), BAD);
    }

    private static void writeState() {
        for (int l : new int[] {1, 2, 11, 12, 21, 22, 42, 51, 52}) {
            SOME.unchangedBy("write(" + l + ")", x -> x.write(l), STATE);
        }
        // Of twelve these are refused for their state, ahead of being too many.
        for (int l : new int[] {1, 2, 11, 12, 21, 22, 41, 51, 52}) {
            FULLY.unchangedBy("write(" + l + ")", x -> x.write(l), STATE);
        }
    }

    private static void writeFull() {
        for (int l : new int[] {31, 32, 42}) {
            FULLY.unchangedBy("write(" + l + ")", x -> x.write(l), FULL);
        }
    }

    private static void undoState() {
        unchanged(new Past[] {NEW, TOLD}, "undo()", SameLetters::undo, STATE);
        Past undone = new Past("undone", x -> {
            writeSome(x);
            x.undo();
            x.undo();
            x.undo();
        });
        undone.unchangedBy("undo()", SameLetters::undo, STATE);
    }

    private static void wroteBad() {
        for (int i : new int[] {LEAST, -5, -1}) {
            unchanged(ALL, "wrote(" + i + ")", x -> x.wrote(i), BAD);
        }
    }

    private static void sideBad() {
        for (int s : new int[] {LEAST, -1, 2, MOST}) {
            unchanged(ALL, "side(" + s + ")", x -> x.side(s), BAD);
        }
    }

    private static void saysBad() {
        for (int i : new int[] {LEAST, -4, -3}) {
            unchanged(ALL, "says(" + i + ")", x -> x.says(i), BAD);
        }
    }

    private static void answersBad() {
        for (int l : noLetters()) {
            unchanged(ALL, "answers(" + l + ", 0, 0)", x -> x.answers(l, 0, 0), BAD);
        }
        for (int slack : new int[] {LEAST, -1, 3, MOST}) {
            unchanged(ALL, "answers(41, " + slack + ", 0)", x -> x.answers(41, slack, 0), BAD);
        }
        for (int what : new int[] {LEAST, -1, 2, MOST}) {
            unchanged(ALL, "answers(41, 0, " + what + ")", x -> x.answers(41, 0, what), BAD);
        }
    }

    private static void muteBad() {
        for (int what : new int[] {LEAST, -1, 2, MOST}) {
            unchanged(ALL, "mute(" + what + ")", x -> x.mute(what), BAD);
        }
    }

    private static void bestBad() {
        for (int what : new int[] {LEAST, -1, 2, MOST}) {
            unchanged(ALL, "best(" + what + ")", x -> x.best(what), BAD);
        }
    }

    private static void barBad() {
        for (int l : noLetters()) {
            unchanged(ALL, "bar(" + l + ", 0)", x -> x.bar(l, 0), BAD);
        }
        for (int slack : new int[] {LEAST, -1, 3, MOST}) {
            unchanged(ALL, "bar(41, " + slack + ")", x -> x.bar(41, slack), BAD);
        }
    }

    private static void chainBad() {
        for (int l : noLetters()) {
            unchanged(ALL, "chain(" + l + ", 1)", x -> x.chain(l, 1), BAD);
        }
        for (int n : new int[] {LEAST, -1, 100, MOST}) {
            unchanged(ALL, "chain(41, " + n + ")", x -> x.chain(41, n), BAD);
        }
    }

    private static void ringBad() {
        for (int l : noLetters()) {
            unchanged(ALL, "ring(" + l + ")", x -> x.ring(l), BAD);
        }
    }

    private static void alphabetBad() {
        for (int k : new int[] {LEAST, -1, 0, 9, MOST}) {
            unchanged(ALL, "alphabet(" + k + ", 0)", x -> x.alphabet(k, 0), BAD);
        }
        for (int what : new int[] {LEAST, -1, 2, MOST}) {
            unchanged(ALL, "alphabet(3, " + what + ")", x -> x.alphabet(3, what), BAD);
        }
    }

    private static void askedBad() {
        for (int l : noLetters()) {
            unchanged(ALL, "asked(" + l + ", 0)", x -> x.asked(l, 0), BAD);
        }
        for (int s : new int[] {LEAST, -1, 3, 4, MOST}) {
            unchanged(ALL, "asked(41, " + s + ")", x -> x.asked(41, s), BAD);
        }
    }

    private static void rateBad() {
        for (int kind = 0; kind <= 5; kind++) {
            int asked = kind;
            for (int w : noWords()) {
                unchanged(ALL, "rate(" + kind + ", " + w + ")", x -> x.rate(asked, w), NO);
            }
            NEW.unchangedBy("rate(" + kind + ", 0)", x -> x.rate(asked, 0), NO);
        }
        for (int kind : new int[] {LEAST, -1, 6, MOST}) {
            unchanged(ALL, "rate(" + kind + ", 0)", x -> x.rate(kind, 0), NO);
        }
    }

    private static void keepBad() {
        for (int image : new int[] {LEAST, -1, 2, MOST}) {
            unchanged(ALL, "keep(" + image + ")", x -> x.keep(image), BAD);
        }
    }

    private static void backBad() {
        for (int image : new int[] {LEAST, -1, 2, MOST}) {
            unchanged(ALL, "back(" + image + ")", x -> x.back(image), BAD);
        }
    }

    private static void backState() {
        unchanged(new Past[] {NEW, TOLD}, "back(0)", x -> x.back(0), STATE);
        unchanged(new Past[] {NEW, TOLD, SOME}, "back(1)", x -> x.back(1), STATE);
    }

    private static void countBad() {
        for (int what : new int[] {LEAST, -1, 4, MOST}) {
            unchanged(ALL, "count(" + what + ")", x -> x.count(what), BAD);
        }
    }

    /** Promises 5 to 9, 26, 27 tell; they do not say that anything changes. */
    private static void askingTheTongueChangesNothing() {
        unchanged(WITH_WORDS, "word(5, 2)", x -> x.word(5, 2), 9);
        unchanged(WITH_WORDS, "spell(5, 1)", x -> x.spell(5, 1), 4);
        unchanged(WITH_WORDS, "spell(5, 2)", x -> x.spell(5, 2), -5);
        unchanged(WITH_WORDS, "shape(1, 0)", x -> x.shape(1, 0), 1);
        unchanged(WITH_WORDS, "shape(1, 2)", x -> x.shape(1, 2), -5);
        unchanged(WITH_WORDS, "letter(51, 1)", x -> x.letter(51, 1), 10);
        unchanged(WITH_WORDS, "has(51, 3)", x -> x.has(51, 3), 2);
        unchanged(WITH_WORDS, "count(0)", x -> x.count(0), 6);
        NEW.unchangedBy("trace()", SameLetters::trace, 0);
        SOME.unchangedBy("trace()", SameLetters::trace, 1011);
        NEW.unchangedBy("tongue()", SameLetters::tongue, 0);
        NEW.unchangedBy("clear()", SameLetters::clear, 0);
        TOLD.unchangedBy("clear()", SameLetters::clear, 0);
    }

    /** Promises 12, 13 tell; to keep what is kept changes nothing, nor does to go back to what is there. */
    private static void askingTheWrittenChangesNothing() {
        SOME.unchangedBy("wrote(2)", x -> x.wrote(2), 42);
        SOME.unchangedBy("wrote(3)", x -> x.wrote(3), -5);
        SOME.unchangedBy("side(0)", x -> x.side(0), 2 + 2 + 6);
        SOME.unchangedBy("side(1)", x -> x.side(1), 5 + 5 + 5);
        FULLY.unchangedBy("keep(0)", x -> x.keep(0), 12);
        FULLY.unchangedBy("back(0)", x -> x.back(0), 12);
    }

    /** "(Nothing is changed.)": promises 14 to 22. */
    private static void askingWhatCanBeSaidChangesNothing() {
        unchanged(WITH_WORDS, "says(-2)", x -> x.says(-2), 13);
        unchanged(WITH_WORDS, "says(-1)", x -> x.says(-1), 12);
        unchanged(WITH_WORDS, "says(11)", x -> x.says(11), 52);
        unchanged(WITH_WORDS, "says(12)", x -> x.says(12), -5);
        unchanged(WITH_WORDS, "answers(31, 0, 0)", x -> x.answers(31, 0, 0), 3);
        unchanged(WITH_WORDS, "answers(31, 0, 1)", x -> x.answers(31, 0, 1), 32);
        unchanged(WITH_WORDS, "answers(31, 2, 0)", x -> x.answers(31, 2, 0), 7);
        unchanged(WITH_WORDS, "answers(31, 2, 1)", x -> x.answers(31, 2, 1), 22);
        unchanged(WITH_WORDS, "mute(0)", x -> x.mute(0), 0);
        unchanged(WITH_WORDS, "mute(1)", x -> x.mute(1), -9);
        unchanged(WITH_WORDS, "best(0)", x -> x.best(0), 51);
        unchanged(WITH_WORDS, "best(1)", x -> x.best(1), 10);
        unchanged(WITH_WORDS, "bar(51, 0)", x -> x.bar(51, 0), 0);
        unchanged(WITH_WORDS, "chain(41, 99)", x -> x.chain(41, 99), 32);
        unchanged(WITH_WORDS, "ring(41)", x -> x.ring(41), 3);
        unchanged(WITH_WORDS, "alphabet(4, 0)", x -> x.alphabet(4, 0), 43);
        unchanged(WITH_WORDS, "alphabet(4, 1)", x -> x.alphabet(4, 1), 10);
        unchanged(WITH_WORDS, "asked(41, 1)", x -> x.asked(41, 1), 3);
    }
}
