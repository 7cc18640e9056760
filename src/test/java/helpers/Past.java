import java.util.ArrayList;
import java.util.List;
import java.util.function.Consumer;
import java.util.function.ToLongFunction;

/** What was called on an object, and all that can be seen of it behind that: whether a further call changes it. */
final class Past {
    /** An object answers 512 calls alone, so that each look is at an object of its own. */
    private static final int LOOKS = 4;

    private static final int[] LETTERS = {1, 2, 9, 11, 12, 22, 31, 32, 41, 42, 51, 52, 999};

    final String name;
    private final Consumer<SameLetters> calls;
    private final List<List<Long>> seen = new ArrayList<>();

    Past(String name, Consumer<SameLetters> calls) {
        this.name = name;
        this.calls = calls;
        for (int look = 0; look < LOOKS; look++) {
            seen.add(look(look, made()));
        }
    }

    SameLetters made() {
        SameLetters x = new SameLetters();
        calls.accept(x);
        return x;
    }

    /** Whether the call answers what is due, and all that can be seen stays as it would be without it. */
    void unchangedBy(String what, ToLongFunction<SameLetters> call, long due) {
        for (int look = 0; look < LOOKS; look++) {
            SameLetters x = made();
            Check.due(what + " of an object that is " + name, call.applyAsLong(x), due);
            Check.holds("nothing changes behind " + what + " of an object that is " + name + ", look " + look,
                    look(look, x).equals(seen.get(look)));
        }
    }

    private static List<Long> look(int look, SameLetters x) {
        List<Long> all = new ArrayList<>();
        switch (look) {
            case 0: lookAtTongue(x, all); break;
            case 1: lookAtSayings(x, all); break;
            case 2: lookAtWritten(x, all); break;
            default: lookAtImagesAndText(x, all); break;
        }
        return all;
    }

    private static void lookAtTongue(SameLetters x, List<Long> all) {
        for (int what = 0; what < 4; what++) {
            add(all, x.count(what));
        }
        add(all, x.trace());
        for (int w = 0; w < 10; w++) {
            for (int what = 0; what < 4; what++) {
                add(all, x.word(w, what));
            }
            for (int i = 0; i < 6; i++) {
                add(all, x.spell(w, i));
            }
        }
        for (int s = 0; s < 5; s++) {
            for (int i = 0; i < 4; i++) {
                add(all, x.shape(s, i));
            }
        }
    }

    private static void lookAtSayings(SameLetters x, List<Long> all) {
        for (int i = -2; i < 30; i++) {
            add(all, x.says(i));
        }
        for (int what = 0; what < 2; what++) {
            add(all, x.mute(what), x.best(what));
            for (int k = 1; k < 9; k++) {
                add(all, x.alphabet(k, what));
            }
        }
        for (int sign = 0; sign < 8; sign++) {
            add(all, x.has(51, sign));
        }
        for (int l : LETTERS) {
            for (int i = 0; i < 3; i++) {
                add(all, x.letter(l, i), x.answers(l, i, 0), x.answers(l, i, 1), x.bar(l, i), x.chain(l, i),
                        x.asked(l, i));
            }
            add(all, x.ring(l));
        }
    }

    private static void lookAtWritten(SameLetters x, List<Long> all) {
        add(all, x.trace(), x.side(0), x.side(1));
        lookAtRow(x, all);
        for (int w = 0; w < 9; w++) {
            for (int kind = 0; kind < 6; kind++) {
                add(all, x.rate(kind, w));
            }
        }
        add(all, x.trace());
        for (int l : LETTERS) {
            add(all, x.write(l), x.count(2));
        }
        for (int i = 0; i < 14; i++) {
            add(all, x.undo(), x.wrote(0), x.side(0), x.side(1));
        }
    }

    private static void lookAtImagesAndText(SameLetters x, List<Long> all) {
        for (int image = 0; image < 2; image++) {
            add(all, x.back(image), x.side(0), x.side(1));
            lookAtRow(x, all);
        }
        add(all, x.count(3), x.tongue());
        lookAtTongue(x, all);
        add(all, x.says(-1), x.count(2), x.back(0), x.back(1), x.clear());
    }

    private static void lookAtRow(SameLetters x, List<Long> all) {
        for (int i = 0; i < 13; i++) {
            add(all, x.wrote(i));
        }
    }

    private static void add(List<Long> all, long... answers) {
        for (long answer : answers) {
            all.add(answer);
        }
    }
}
