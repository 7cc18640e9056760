import java.util.ArrayList;
import java.util.Arrays;
import java.util.Collection;
import java.util.HashMap;
import java.util.HashSet;
import java.util.List;
import java.util.Map;
import java.util.Set;
import java.util.TreeMap;

/** The document once more, in the dullest way: but for the counts nothing is held ready. */
final class Model {
    static final int BAD = -1, STATE = -2, FULL = -3, NONE = -9, NO = -1000000;

    record Word(String signs, int kind, int own, int other) {
    }

    String text = "";
    List<Word> words = new ArrayList<>();
    List<List<Integer>> shapes = new ArrayList<>();
    List<Integer> written = new ArrayList<>();
    Map<Integer, List<Integer>> images = new HashMap<>();
    TreeMap<Integer, List<Integer>> letters = new TreeMap<>();
    Map<Integer, int[]> counts = new HashMap<>();
    long trace = 0;

    int type(long v, int n) {
        if (n < 1 || n > 8) {
            return BAD;
        }
        if (text.length() + n > 200) {
            return FULL;
        }
        StringBuilder more = new StringBuilder();
        for (int i = 0; i < n; i++) {
            more.insert(0, (char) (v & 255));
            v >>= 8;
        }
        text += more;
        return text.length();
    }

    int clear() {
        int had = text.length();
        text = "";
        return had;
    }

    int tongue() {
        TextOfModel read = new TextOfModel(text);
        if (read.fault >= 0) {
            return -10 - read.fault;
        }
        words = read.words;
        shapes = read.shapes;
        text = "";
        written.clear();
        images.clear();
        letters.clear();
        counts.clear();
        for (List<Integer> shape : shapes) {
            say(shape, new ArrayList<>());
        }
        return words.size() + shapes.size();
    }

    private void say(List<Integer> shape, List<Integer> row) {
        if (row.size() == shape.size()) {
            int number = 0;
            for (int w : row) {
                number = 10 * number + w + 1;
            }
            letters.put(number, List.copyOf(row));
            counts.put(number, countsOf(number));
            return;
        }
        for (int w = 0; w < words.size(); w++) {
            if (words.get(w).kind() == shape.get(row.size())) {
                List<Integer> longer = new ArrayList<>(row);
                longer.add(w);
                say(shape, longer);
            }
        }
    }

    private boolean none(int l) {
        return !letters.containsKey(l);
    }

    private boolean isWord(int w) {
        return w >= 0 && w < words.size();
    }

    private static boolean outside(int number, int least, int most) {
        return number < least || number > most;
    }

    int word(int w, int what) {
        if (!isWord(w) || outside(what, 0, 3)) {
            return BAD;
        }
        Word told = words.get(w);
        return List.of(told.signs().length(), told.kind(), told.own(), told.other()).get(what);
    }

    int spell(int w, int i) {
        if (!isWord(w) || i < 0) {
            return BAD;
        }
        String signs = words.get(w).signs();
        return i >= signs.length() ? -5 : "abcdefgh".indexOf(signs.charAt(i));
    }

    int shape(int s, int i) {
        if (outside(s, 0, shapes.size() - 1) || i < 0) {
            return BAD;
        }
        return i >= shapes.get(s).size() ? -5 : shapes.get(s).get(i);
    }

    private String signs(int l) {
        StringBuilder all = new StringBuilder();
        for (int w : letters.get(l)) {
            all.append(words.get(w).signs());
        }
        return all.toString();
    }

    private int own(int l) {
        return letters.get(l).stream().mapToInt(w -> words.get(w).own()).sum();
    }

    private int other(int l) {
        return letters.get(l).stream().mapToInt(w -> words.get(w).other()).sum();
    }

    private int[] countsOf(int l) {
        int[] times = new int[8];
        signs(l).chars().forEach(c -> times[c - 'a']++);
        return times;
    }

    private int times(int l, char sign) {
        return counts.get(l)[sign - 'a'];
    }

    int letter(int l, int what) {
        if (none(l) || outside(what, 0, 2)) {
            return BAD;
        }
        return what == 0 ? own(l) : what == 1 ? other(l) : signs(l).length();
    }

    int has(int l, int sign) {
        return none(l) || outside(sign, 0, 7) ? BAD : times(l, (char) ('a' + sign));
    }

    private boolean sameCount(int l, int m) {
        char[] ofL = signs(l).toCharArray();
        char[] ofM = signs(m).toCharArray();
        Arrays.sort(ofL);
        Arrays.sort(ofM);
        return Arrays.equals(ofL, ofM);
    }

    int write(int l) {
        if (none(l)) {
            return BAD;
        }
        if (!written.isEmpty()) {
            int last = written.get(written.size() - 1);
            if (last == l || !sameCount(last, l)) {
                return STATE;
            }
        }
        if (written.size() == 12) {
            return FULL;
        }
        written.add(l);
        return written.size();
    }

    int undo() {
        if (written.isEmpty()) {
            return STATE;
        }
        written.remove(written.size() - 1);
        return written.size();
    }

    int wrote(int i) {
        return i < 0 ? BAD : i >= written.size() ? -5 : written.get(i);
    }

    int side(int s) {
        if (outside(s, 0, 1)) {
            return BAD;
        }
        int has = 0;
        int turn = 0;
        for (int l : written) {
            has += turn == s ? own(l) : other(l);
            turn = 1 - turn;
        }
        return has;
    }

    int says(int i) {
        if (i < -2) {
            return BAD;
        }
        if (i == -2) {
            return letters.keySet().stream().mapToInt(this::own).max().orElse(NONE);
        }
        if (i == -1) {
            return letters.size();
        }
        return i < letters.size() ? new ArrayList<>(letters.keySet()).get(i) : -5;
    }

    private List<Integer> answersTo(int l, int slack) {
        List<Integer> all = new ArrayList<>();
        int[] ofL = counts.get(l);
        for (int m : letters.keySet()) {
            int[] ofM = counts.get(m);
            int differ = 0;
            for (int sign = 0; sign < 8; sign++) {
                differ += Math.abs(ofL[sign] - ofM[sign]);
            }
            if (m != l && differ <= slack) {
                all.add(m);
            }
        }
        return all;
    }

    private int mostOwn(Collection<Integer> some) {
        int found = NONE;
        for (int l : some) {
            if (found == NONE || own(l) > own(found)) {
                found = l;
            }
        }
        return found;
    }

    int answers(int l, int slack, int what) {
        if (none(l) || outside(slack, 0, 2) || outside(what, 0, 1)) {
            return BAD;
        }
        List<Integer> all = answersTo(l, slack);
        return what == 0 ? all.size() : mostOwn(all);
    }

    int mute(int what) {
        if (outside(what, 0, 1)) {
            return BAD;
        }
        List<Integer> all = letters.keySet().stream().filter(l -> answersTo(l, 0).isEmpty()).toList();
        return what == 0 ? all.size() : all.isEmpty() ? NONE : all.get(0);
    }

    int best(int what) {
        if (outside(what, 0, 1)) {
            return BAD;
        }
        int found = NONE;
        int most = NONE;
        for (int l : letters.keySet()) {
            int answer = mostOwn(answersTo(l, 0));
            if (answer != NONE && (found == NONE || other(answer) > most)) {
                found = l;
                most = other(answer);
            }
        }
        return what == 0 ? found : most;
    }

    int bar(int l, int slack) {
        if (none(l) || outside(slack, 0, 2)) {
            return BAD;
        }
        List<Integer> all = answersTo(l, slack);
        if (all.isEmpty()) {
            return -5;
        }
        for (char sign = 'a'; sign <= 'h'; sign++) {
            char asked = sign;
            if (all.stream().allMatch(m -> times(m, asked) > 0)) {
                return sign - 'a';
            }
        }
        return NONE;
    }

    int chain(int l, int n) {
        if (none(l) || outside(n, 0, 99)) {
            return BAD;
        }
        int at = l;
        for (int i = 0; i < n && at != NONE; i++) {
            at = mostOwn(answersTo(at, 0));
        }
        return at;
    }

    int ring(int l) {
        if (none(l)) {
            return BAD;
        }
        Set<Integer> came = new HashSet<>();
        int at = l;
        for (int n = 1; n <= 99; n++) {
            came.add(at);
            at = mostOwn(answersTo(at, 0));
            if (at == NONE) {
                return NONE;
            }
            if (came.contains(at)) {
                return n;
            }
        }
        return NONE;
    }

    int alphabet(int k, int what) {
        if (outside(k, 1, 8) || outside(what, 0, 1)) {
            return BAD;
        }
        int found = 0;
        int most = -1;
        for (int set = 0; set < 256; set++) {
            if (Integer.bitCount(set) == k) {
                int inIt = set;
                int many = (int) letters.keySet().stream()
                        .filter(l -> signs(l).chars().allMatch(c -> (inIt & 1 << c - 'a') != 0)).count();
                if (many > most) {
                    most = many;
                    found = set;
                }
            }
        }
        return what == 0 ? found : most;
    }

    int asked(int l, int s) {
        if (none(l) || outside(s, 0, shapes.size() - 1)) {
            return BAD;
        }
        return (int) answersTo(l, 0).stream()
                .filter(m -> letters.get(m).stream().map(w -> words.get(w).kind()).toList().equals(shapes.get(s)))
                .count();
    }

    int rate(int kind, int w) {
        if (outside(kind, 0, 5) || !isWord(w)) {
            return NO;
        }
        trace += List.of(1, 11, 101, 1011, 10101, 100001).get(kind);
        Word told = words.get(w);
        int vow = told.own() + told.signs().length();
        int bill = told.own() - told.other();
        int threat = told.own();
        for (int l : written) {
            threat += (int) letters.get(l).stream().filter(there -> there == w).count();
        }
        return List.of(told.own(), vow, bill, 2 * vow, bill + w, threat).get(kind);
    }

    int keep(int image) {
        if (outside(image, 0, 1)) {
            return BAD;
        }
        images.put(image, new ArrayList<>(written));
        return written.size();
    }

    int back(int image) {
        if (outside(image, 0, 1)) {
            return BAD;
        }
        if (!images.containsKey(image)) {
            return STATE;
        }
        written = new ArrayList<>(images.get(image));
        return written.size();
    }

    int count(int what) {
        if (outside(what, 0, 3)) {
            return BAD;
        }
        return List.of(words.size(), shapes.size(), written.size(), text.length()).get(what);
    }

    long trace() {
        return trace;
    }
}
