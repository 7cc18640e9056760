import java.util.Random;

/** Long runs of calls, the same at every start, beside a model of the document. */
public final class ModelTest {
    private static final int RUNS = 400;

    private final Random random;
    private final SameLetters x = new SameLetters();
    private final Model model = new Model();
    private final int run;
    private int calls = 0;

    private ModelTest(int run) {
        this.run = run;
        random = new Random(1000 + run);
    }

    public static void main(String[] args) {
        for (int run = 0; run < RUNS; run++) {
            new ModelTest(run).run();
        }
        Check.end();
    }

    private void run() {
        for (int tongues = 0; tongues < 4; tongues++) {
            String text = random.nextInt(6) == 0 ? broken(text()) : text();
            due("clear()", x.clear(), model.clear());
            tell(text);
            due("tongue() of «" + text + "»", x.tongue(), model.tongue());
            int most = random.nextInt(8) == 0 ? 5 : 90;
            for (int i = 0; i < most && calls < 480; i++) {
                call();
            }
        }
    }

    private void due(String what, long got, long want) {
        calls++;
        Check.due("run " + run + ", call " + calls + ": " + what, got, want);
    }

    private int upTo(int bound) {
        return random.nextInt(bound);
    }

    private void tell(String text) {
        for (int at = 0; at < text.length(); at += 8) {
            String row = text.substring(at, Math.min(at + 8, text.length()));
            // Bytes ahead of those that are asked for must not matter.
            long v = random.nextLong();
            for (int i = 0; i < row.length(); i++) {
                v = v << 8 | row.charAt(i);
            }
            due("type(" + v + ", " + row.length() + ")", x.type(v, row.length()), model.type(v, row.length()));
        }
    }

    /** Few signs and few kinds, so that there are many answers. */
    private String text() {
        StringBuilder text = new StringBuilder();
        int words = upTo(10);
        int shapes = upTo(5);
        int signs = 1 + upTo(upTo(4) == 0 ? 8 : 4);
        int kinds = 1 + upTo(3);
        int longest = 1 + upTo(words > 6 ? 3 : 5);
        while (words + shapes > 0) {
            if (upTo(words + shapes) < words) {
                text.append("word ");
                for (int i = upTo(longest); i >= 0; i--) {
                    text.append((char) ('a' + upTo(signs)));
                }
                text.append(' ').append(upTo(kinds)).append(' ').append(upTo(10)).append(' ').append(upTo(10));
                words--;
            } else {
                text.append("shape");
                for (int i = upTo(3); i >= 0; i--) {
                    text.append(' ').append(upTo(kinds));
                }
                shapes--;
            }
            text.append(upTo(9) == 0 ? " ; " : ";");
        }
        return text.toString();
    }

    private String broken(String whole) {
        StringBuilder text = new StringBuilder(whole);
        String bytes = "abhizwordshape0123459;;;   A~\n" + (char) 0 + (char) 200;
        for (int i = upTo(3); i >= 0; i--) {
            int place = upTo(text.length() + 1);
            int change = upTo(3);
            if (change != 0 && place < text.length()) {
                text.deleteCharAt(place);
            }
            if (change != 1) {
                text.insert(place, bytes.charAt(upTo(bytes.length())));
            }
        }
        return text.toString();
    }

    private int someLetter() {
        int many = model.letters.size();
        if (many > 0 && upTo(8) != 0) {
            return model.says(upTo(many));
        }
        return upTo(40) == 0 ? random.nextInt() : upTo(1100) - 20;
    }

    private int someAnswer() {
        int many = model.written.size();
        if (many > 0 && upTo(6) != 0) {
            int answer = model.answers(model.written.get(many - 1), 0, 1);
            return answer == Model.NONE ? someLetter() : answer;
        }
        return someLetter();
    }

    private int near(int bound) {
        return upTo(30) == 0 ? random.nextInt() : upTo(12) == 0 ? upTo(bound + 4) - 2 : upTo(bound);
    }

    private void call() {
        switch (upTo(3)) {
            case 0: callOfWriters(); break;
            case 1: callOfSayings(); break;
            default: callOfWords(); break;
        }
    }

    private void callOfWriters() {
        int s = near(2);
        int i = near(13);
        int l = someAnswer();
        switch (upTo(14)) {
            case 0: due("undo()", x.undo(), model.undo()); break;
            case 1: due("wrote(" + i + ")", x.wrote(i), model.wrote(i)); break;
            case 2: due("side(" + s + ")", x.side(s), model.side(s)); break;
            case 3: due("keep(" + s + ")", x.keep(s), model.keep(s)); break;
            case 4: due("back(" + s + ")", x.back(s), model.back(s)); break;
            default: due("write(" + l + ")", x.write(l), model.write(l)); break;
        }
    }

    private void callOfSayings() {
        int l = someLetter();
        int slack = near(3);
        int what = near(2);
        int n = near(100);
        int k = 1 + near(8);
        int s = near(4);
        int i = upTo(3) == 0 ? -1 - near(2) : near(model.letters.size() + 1);
        switch (upTo(9)) {
            case 0: due("says(" + i + ")", x.says(i), model.says(i)); break;
            case 1: due("mute(" + what + ")", x.mute(what), model.mute(what)); break;
            case 2: due("best(" + what + ")", x.best(what), model.best(what)); break;
            case 3: due("bar(" + l + ", " + slack + ")", x.bar(l, slack), model.bar(l, slack)); break;
            case 4: due("chain(" + l + ", " + n + ")", x.chain(l, n), model.chain(l, n)); break;
            case 5: due("ring(" + l + ")", x.ring(l), model.ring(l)); break;
            case 6: due("alphabet(" + k + ", " + what + ")", x.alphabet(k, what), model.alphabet(k, what)); break;
            case 7: due("asked(" + l + ", " + s + ")", x.asked(l, s), model.asked(l, s)); break;
            default:
                due("answers(" + l + ", " + slack + ", " + what + ")", x.answers(l, slack, what),
                        model.answers(l, slack, what));
                break;
        }
    }

    private void callOfWords() {
        int w = near(9);
        int s = near(4);
        int i = near(6);
        int l = someLetter();
        int kind = near(6);
        int n = 1 + near(8);
        long v = random.nextLong();
        switch (upTo(9)) {
            case 0: due("word(" + w + ", " + s + ")", x.word(w, s), model.word(w, s)); break;
            case 1: due("spell(" + w + ", " + i + ")", x.spell(w, i), model.spell(w, i)); break;
            case 2: due("shape(" + s + ", " + i + ")", x.shape(s, i), model.shape(s, i)); break;
            case 3: due("letter(" + l + ", " + s + ")", x.letter(l, s), model.letter(l, s)); break;
            case 4: due("has(" + l + ", " + kind + ")", x.has(l, kind), model.has(l, kind)); break;
            case 5: due("count(" + s + ")", x.count(s), model.count(s)); break;
            case 6: due("trace()", x.trace(), model.trace()); break;
            case 7: due("type(" + v + ", " + n + ")", x.type(v, n), model.type(v, n)); break;
            default: due("rate(" + kind + ", " + w + ")", x.rate(kind, w), model.rate(kind, w)); break;
        }
    }
}
