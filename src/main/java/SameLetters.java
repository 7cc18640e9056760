/** Letters that are answered with their own signs: a tongue, what can be said in it, and two who write by turns. */
public final class SameLetters {
    public static final int BAD = -1, STATE = -2, FULL = -3, NONE = -9;
    public static final int NO = -1000000;

    private static final int NOT_SO_MANY = -5;
    private static final int FAULT_AT_0 = -10;
    private static final int SIGNS = 8, KINDS = 3, MOST_WORTH = 9, MOST_SLACK = 2;
    private static final int MOST_WORDS = 9, MOST_SHAPES = 4, MOST_SPELLED = 5, MOST_IN_ROW = 3;
    private static final int MOST_BYTES = 200, MOST_WRITTEN = 12, MOST_ANSWERS = 99;
    private static final int IMAGES = 2, SIDES = 2, SETS = 1 << SIGNS;
    /** A row of words is a number of three figures at most. */
    private static final int ROWS = 1000;

    private final Text text;
    private final Sayings sayings;
    private final Post post;
    private final Post[] images;
    private Tongue spoken;
    private Tongue draft;
    private long traced;

    public SameLetters() {
        text = new Text();
        sayings = new Sayings();
        post = new Post();
        images = new Post[IMAGES];
        for (int i = 0; i < IMAGES; i++) {
            images[i] = new Post();
        }
        spoken = new Tongue();
        draft = new Tongue();
        traced = 0;
    }

    // ---- a tongue

    public int type(long v, int n) {
        if (n < 1 || n > 8) {
            return BAD;
        }
        if (text.length + n > MOST_BYTES) {
            return FULL;
        }
        for (int i = n - 1; i >= 0; i--) {
            text.add((int) (v >>> (8 * i)) & 255);
        }
        return text.length;
    }

    public int clear() {
        int had = text.length;
        text.length = 0;
        return had;
    }

    public int tongue() {
        // Read beside the tongue that is spoken, so that a fault leaves that one whole.
        if (!draft.readAll(text)) {
            return FAULT_AT_0 - text.start;
        }
        Tongue old = spoken;
        spoken = draft;
        draft = old;
        text.length = 0;
        sayings.fill(spoken);
        post.many = 0;
        for (int i = 0; i < IMAGES; i++) {
            images[i].kept = false;
        }
        return spoken.wordCount + spoken.shapeCount;
    }

    public int word(int w, int what) {
        if (!isWord(w)) {
            return BAD;
        }
        Word told = spoken.words[w];
        switch (what) {
            case 0: return told.length;
            case 1: return told.kind;
            case 2: return told.own;
            case 3: return told.other;
            default: return BAD;
        }
    }

    public int spell(int w, int i) {
        if (!isWord(w) || i < 0) {
            return BAD;
        }
        Word told = spoken.words[w];
        return i < told.length ? told.signs[i] : NOT_SO_MANY;
    }

    public int shape(int s, int i) {
        if (!isShape(s) || i < 0) {
            return BAD;
        }
        Shape told = spoken.shapes[s];
        return i < told.length ? told.kinds[i] : NOT_SO_MANY;
    }

    public int letter(int l, int what) {
        if (!sayings.canBeSaid(l)) {
            return BAD;
        }
        switch (what) {
            case 0: return sayings.own[l];
            case 1: return sayings.other[l];
            case 2: return sayings.length[l];
            default: return BAD;
        }
    }

    public int has(int l, int sign) {
        if (!sayings.canBeSaid(l) || sign < 0 || sign >= SIGNS) {
            return BAD;
        }
        return sayings.countOf(l, sign);
    }

    // ---- two who write

    public int write(int l) {
        if (!sayings.canBeSaid(l)) {
            return BAD;
        }
        if (post.many > 0 && !sayings.isAnswer(post.rows[post.many - 1], l)) {
            return STATE;
        }
        if (post.many >= MOST_WRITTEN) {
            return FULL;
        }
        post.rows[post.many] = l;
        post.many++;
        return post.many;
    }

    public int undo() {
        if (post.many <= 0) {
            return STATE;
        }
        post.many--;
        return post.many;
    }

    public int wrote(int i) {
        if (i < 0) {
            return BAD;
        }
        return i < post.many ? post.rows[i] : NOT_SO_MANY;
    }

    public int side(int s) {
        if (s < 0 || s >= SIDES) {
            return BAD;
        }
        int worth = 0;
        for (int i = 0; i < post.many; i++) {
            int l = post.rows[i];
            worth += i % SIDES == s ? sayings.own[l] : sayings.other[l];
        }
        return worth;
    }

    // ---- what can be said

    public int says(int i) {
        if (i < -2) {
            return BAD;
        }
        if (i == -2) {
            return sayings.mostOwn();
        }
        return i == -1 ? sayings.howMany : sayings.numberAt(i);
    }

    public int answers(int l, int slack, int what) {
        if (!sayings.canBeSaid(l) || !isSlack(slack) || what < 0 || what > 1) {
            return BAD;
        }
        return what == 0 ? sayings.countAnswers(l, slack) : sayings.findBest(l, slack);
    }

    public int mute(int what) {
        if (what < 0 || what > 1) {
            return BAD;
        }
        return what == 0 ? sayings.countMute() : sayings.firstMute();
    }

    public int best(int what) {
        if (what < 0 || what > 1) {
            return BAD;
        }
        int l = sayings.bestToWrite();
        if (l == 0) {
            return NONE;
        }
        return what == 0 ? l : sayings.other[sayings.bestAnswer[l]];
    }

    public int bar(int l, int slack) {
        if (!sayings.canBeSaid(l) || !isSlack(slack)) {
            return BAD;
        }
        return sayings.leastCommonSign(l, slack);
    }

    public int chain(int l, int n) {
        if (!sayings.canBeSaid(l) || n < 0 || n > MOST_ANSWERS) {
            return BAD;
        }
        return sayings.follow(l, n);
    }

    public int ring(int l) {
        if (!sayings.canBeSaid(l)) {
            return BAD;
        }
        return sayings.stepsToRing(l);
    }

    public int alphabet(int k, int what) {
        if (k < 1 || k > SIGNS || what < 0 || what > 1) {
            return BAD;
        }
        int set = sayings.bestSet(k);
        return what == 0 ? set : sayings.countWithin(set);
    }

    public int asked(int l, int s) {
        if (!sayings.canBeSaid(l) || !isShape(s)) {
            return BAD;
        }
        return sayings.countAsked(l, spoken.shapes[s].row());
    }

    // ---- kinds, images

    public int rate(int kind, int w) {
        if (!isWord(w)) {
            return NO;
        }
        switch (kind) {
            case 0: return rateWord(w);
            case 1: return rateVow(w);
            case 2: return rateBill(w);
            case 3: return rateVerse(w);
            case 4: return rateInsult(w);
            case 5: return rateThreat(w);
            default: return NO;
        }
    }

    public int keep(int image) {
        if (image < 0 || image >= IMAGES) {
            return BAD;
        }
        images[image].become(post);
        images[image].kept = true;
        return post.many;
    }

    public int back(int image) {
        if (image < 0 || image >= IMAGES) {
            return BAD;
        }
        if (!images[image].kept) {
            return STATE;
        }
        post.become(images[image]);
        return post.many;
    }

    public int count(int what) {
        switch (what) {
            case 0: return spoken.wordCount;
            case 1: return spoken.shapeCount;
            case 2: return post.many;
            case 3: return text.length;
            default: return BAD;
        }
    }

    public long trace() {
        return traced;
    }

    // ---- what the calls above have in common

    private boolean isWord(int w) {
        return w >= 0 && w < spoken.wordCount;
    }

    private boolean isShape(int s) {
        return s >= 0 && s < spoken.shapeCount;
    }

    private static boolean isSlack(int slack) {
        return slack >= 0 && slack <= MOST_SLACK;
    }

    private int rateWord(int w) {
        traced += 1;
        return spoken.words[w].own;
    }

    private int rateVow(int w) {
        traced += 10;
        return rateWord(w) + spoken.words[w].length;
    }

    private int rateBill(int w) {
        traced += 100;
        return rateWord(w) - spoken.words[w].other;
    }

    private int rateVerse(int w) {
        traced += 1000;
        return 2 * rateVow(w);
    }

    private int rateInsult(int w) {
        traced += 10000;
        return rateBill(w) + w;
    }

    private int rateThreat(int w) {
        traced += 100000;
        return rateWord(w) + post.timesOf(w);
    }

    /** A word as the tongue tells it. */
    private static final class Word {
        final int[] signs = new int[MOST_SPELLED];
        int length;
        int kind;
        int own;
        int other;
    }

    /** A shape as the tongue tells it. */
    private static final class Shape {
        final int[] kinds = new int[MOST_IN_ROW];
        int length;

        int row() {
            int row = 0;
            for (int i = 0; i < length; i++) {
                row = lengthened(row, kinds[i]);
            }
            return row;
        }

        /** A row of kinds as one number; a kind counts 1 to 3 in it, so that 0 is the row of none. */
        static int lengthened(int row, int kind) {
            return row * (KINDS + 1) + kind + 1;
        }
    }

    /** The bytes that were typed, and the token among them that is being read. */
    private static final class Text {
        static final int END = 0, FAULTY = 1, SEMICOLON = 2, NUMBER = 3, SPELLED = 4, WORD = 5, SHAPE = 6;
        static final int MOST_NUMBER = 99;

        final int[] bytes = new int[MOST_BYTES];
        int length;
        int start;
        int behind;
        int sort;
        int number;

        void add(int b) {
            if (length < MOST_BYTES) {
                bytes[length] = b;
                length++;
            }
        }

        void rewind() {
            behind = 0;
        }

        /** The token at hand is the next one; behind the last one it is END, and starts where the text ends. */
        void advance() {
            start = behind;
            while (start < length && bytes[start] == ' ') {
                start++;
            }
            behind = start;
            if (start >= length) {
                sort = END;
            } else if (isIn(start, 'a', 'z')) {
                takeLetters();
            } else if (isIn(start, '0', '9')) {
                takeNumber();
            } else {
                behind++;
                sort = bytes[start] == ';' ? SEMICOLON : FAULTY;
            }
        }

        private boolean isIn(int place, char least, char most) {
            return bytes[place] >= least && bytes[place] <= most;
        }

        private void takeLetters() {
            boolean areSigns = true;
            while (behind < length && isIn(behind, 'a', 'z')) {
                areSigns = areSigns && isIn(behind, 'a', 'h');
                behind++;
            }
            if (isName("word")) {
                sort = WORD;
            } else if (isName("shape")) {
                sort = SHAPE;
            } else {
                sort = areSigns && behind - start <= MOST_SPELLED ? SPELLED : FAULTY;
            }
        }

        private boolean isName(String name) {
            if (behind - start != name.length()) {
                return false;
            }
            for (int i = 0; i < name.length(); i++) {
                if (bytes[start + i] != name.charAt(i)) {
                    return false;
                }
            }
            return true;
        }

        private void takeNumber() {
            number = 0;
            while (behind < length && isIn(behind, '0', '9')) {
                // A row of 200 figures must not wrap around to a number that may stand.
                number = Math.min(number * 10 + bytes[behind] - '0', MOST_NUMBER + 1);
                behind++;
            }
            boolean zeroAhead = bytes[start] == '0' && behind - start > 1;
            sort = zeroAhead || number > MOST_NUMBER ? FAULTY : NUMBER;
        }
    }

    /** The words and shapes that a text tells. */
    private static final class Tongue {
        final Word[] words = new Word[MOST_WORDS];
        final Shape[] shapes = new Shape[MOST_SHAPES];
        int wordCount;
        int shapeCount;

        Tongue() {
            for (int w = 0; w < MOST_WORDS; w++) {
                words[w] = new Word();
            }
            for (int s = 0; s < MOST_SHAPES; s++) {
                shapes[s] = new Shape();
            }
        }

        /** Whether the whole text could be read; if not, the token that can't stand is the one at hand. */
        boolean readAll(Text from) {
            wordCount = 0;
            shapeCount = 0;
            from.rewind();
            for (int items = 0; items <= MOST_WORDS + MOST_SHAPES; items++) {
                from.advance();
                if (from.sort == Text.END) {
                    return true;
                }
                boolean isItem = from.sort == Text.WORD ? readWord(from) : from.sort == Text.SHAPE && readShape(from);
                if (!isItem) {
                    return false;
                }
            }
            return false;
        }

        private boolean readWord(Text from) {
            if (wordCount >= MOST_WORDS) {
                return false;
            }
            Word into = words[wordCount];
            if (!readSigns(from, into) || !readNumber(from, KINDS - 1)) {
                return false;
            }
            into.kind = from.number;
            if (!readNumber(from, MOST_WORTH)) {
                return false;
            }
            into.own = from.number;
            if (!readNumber(from, MOST_WORTH)) {
                return false;
            }
            into.other = from.number;
            wordCount++;
            return readEnd(from);
        }

        private boolean readShape(Text from) {
            if (shapeCount >= MOST_SHAPES || !readNumber(from, KINDS - 1)) {
                return false;
            }
            Shape into = shapes[shapeCount];
            into.kinds[0] = from.number;
            into.length = 1;
            shapeCount++;
            for (int i = 1; i < MOST_IN_ROW; i++) {
                if (!readNumber(from, KINDS - 1)) {
                    return from.sort == Text.SEMICOLON;
                }
                into.kinds[i] = from.number;
                into.length = i + 1;
            }
            return readEnd(from);
        }

        private static boolean readSigns(Text from, Word into) {
            from.advance();
            if (from.sort != Text.SPELLED) {
                return false;
            }
            into.length = Math.min(from.behind - from.start, MOST_SPELLED);
            for (int i = 0; i < into.length; i++) {
                into.signs[i] = from.bytes[from.start + i] - 'a';
            }
            return true;
        }

        private static boolean readNumber(Text from, int most) {
            from.advance();
            return from.sort == Text.NUMBER && from.number <= most;
        }

        private static boolean readEnd(Text from) {
            from.advance();
            return from.sort == Text.SEMICOLON;
        }
    }

    /** All rows of words by their numbers (0 is the row of none), and which of them are letters. */
    private static final class Sayings {
        final boolean[] isLetter = new boolean[ROWS];
        final int[] kindRow = new int[ROWS];
        final int[] own = new int[ROWS];
        final int[] other = new int[ROWS];
        final int[] length = new int[ROWS];
        /** How often each sign is there, eight bits for each. */
        final long[] counts = new long[ROWS];
        final int[] set = new int[ROWS];
        /** The best answer without slack; 0: none. */
        final int[] bestAnswer = new int[ROWS];
        /** How many letters have just these signs. */
        final int[] lettersOfSet = new int[SETS];
        int howMany;

        // Letters of the same counts answer one another. Of each such group: its best letter, which answers
        // all others, and the best of the others, which answers that one.
        private final int[] bestOfGroup = new int[ROWS];
        private final int[] nextOfGroup = new int[ROWS];
        private final int[] groupOf = new int[ROWS];
        private int groups;

        void fill(Tongue from) {
            for (int s = 0; s < SETS; s++) {
                lettersOfSet[s] = 0;
            }
            howMany = 0;
            groups = 0;
            for (int l = 1; l < ROWS; l++) {
                fillRow(l, from);
                if (isLetter[l]) {
                    howMany++;
                    lettersOfSet[set[l]]++;
                    putIntoGroup(l);
                }
            }
            for (int l = 1; l < ROWS; l++) {
                if (isLetter[l]) {
                    int group = groupOf[l];
                    bestAnswer[l] = bestOfGroup[group] == l ? nextOfGroup[group] : bestOfGroup[group];
                }
            }
        }

        /** A row is the shorter row ahead of its last word, and that word. */
        private void fillRow(int l, Tongue from) {
            int ahead = l / 10;
            int last = l % 10 - 1;
            isLetter[l] = false;
            kindRow[l] = 0;
            boolean isRow = last >= 0 && last < from.wordCount && (ahead == 0 || kindRow[ahead] != 0);
            if (!isRow) {
                return;
            }
            Word word = from.words[last];
            kindRow[l] = Shape.lengthened(kindRow[ahead], word.kind);
            own[l] = own[ahead] + word.own;
            other[l] = other[ahead] + word.other;
            length[l] = length[ahead] + word.length;
            counts[l] = counts[ahead];
            set[l] = set[ahead];
            for (int i = 0; i < word.length; i++) {
                counts[l] += 1L << (8 * word.signs[i]);
                set[l] |= 1 << word.signs[i];
            }
            for (int s = 0; s < from.shapeCount; s++) {
                isLetter[l] = isLetter[l] || from.shapes[s].row() == kindRow[l];
            }
        }

        private void putIntoGroup(int l) {
            int group = 0;
            while (group < groups && counts[bestOfGroup[group]] != counts[l]) {
                group++;
            }
            groupOf[l] = group;
            if (group == groups) {
                groups++;
                bestOfGroup[group] = l;
                nextOfGroup[group] = 0;
            } else if (own[l] > own[bestOfGroup[group]]) {
                nextOfGroup[group] = bestOfGroup[group];
                bestOfGroup[group] = l;
            } else if (nextOfGroup[group] == 0 || own[l] > own[nextOfGroup[group]]) {
                nextOfGroup[group] = l;
            }
        }

        boolean canBeSaid(int l) {
            return l > 0 && l < ROWS && isLetter[l];
        }

        int countOf(int l, int sign) {
            return (int) (counts[l] >>> (8 * sign)) & 255;
        }

        boolean isAnswer(int l, int answer) {
            return isLetter[answer] && answer != l && counts[answer] == counts[l];
        }

        private boolean isNear(int l, int answer, int slack) {
            return isLetter[answer] && answer != l && difference(l, answer) <= slack;
        }

        private int difference(int l, int m) {
            int all = 0;
            for (int sign = 0; sign < SIGNS; sign++) {
                all += Math.abs(countOf(l, sign) - countOf(m, sign));
            }
            return all;
        }

        int mostOwn() {
            int most = NONE;
            for (int l = 1; l < ROWS; l++) {
                if (isLetter[l]) {
                    most = Math.max(most, own[l]);
                }
            }
            return most;
        }

        int numberAt(int place) {
            int ahead = 0;
            for (int l = 1; l < ROWS; l++) {
                if (isLetter[l]) {
                    if (ahead == place) {
                        return l;
                    }
                    ahead++;
                }
            }
            return NOT_SO_MANY;
        }

        int countAnswers(int l, int slack) {
            int many = 0;
            for (int m = 1; m < ROWS; m++) {
                if (isNear(l, m, slack)) {
                    many++;
                }
            }
            return many;
        }

        int findBest(int l, int slack) {
            int found = NONE;
            int most = -1;
            for (int m = 1; m < ROWS; m++) {
                if (isNear(l, m, slack) && own[m] > most) {
                    found = m;
                    most = own[m];
                }
            }
            return found;
        }

        int countMute() {
            int many = 0;
            for (int l = 1; l < ROWS; l++) {
                if (isLetter[l] && bestAnswer[l] == 0) {
                    many++;
                }
            }
            return many;
        }

        int firstMute() {
            for (int l = 1; l < ROWS; l++) {
                if (isLetter[l] && bestAnswer[l] == 0) {
                    return l;
                }
            }
            return NONE;
        }

        /** The letter whose best answer is worth most to whoever reads that; 0: no letter has an answer. */
        int bestToWrite() {
            int found = 0;
            int most = -1;
            for (int l = 1; l < ROWS; l++) {
                if (isLetter[l] && bestAnswer[l] != 0 && other[bestAnswer[l]] > most) {
                    found = l;
                    most = other[bestAnswer[l]];
                }
            }
            return found;
        }

        int leastCommonSign(int l, int slack) {
            int common = SETS - 1;
            boolean none = true;
            for (int m = 1; m < ROWS; m++) {
                if (isNear(l, m, slack)) {
                    common &= set[m];
                    none = false;
                }
            }
            if (none) {
                return NOT_SO_MANY;
            }
            for (int sign = 0; sign < SIGNS; sign++) {
                if ((common >> sign & 1) == 1) {
                    return sign;
                }
            }
            return NONE;
        }

        int follow(int l, int answers) {
            int at = l;
            for (int i = 0; i < answers; i++) {
                at = bestAnswer[at];
                if (at == 0) {
                    return NONE;
                }
            }
            return at;
        }

        int stepsToRing(int l) {
            int at = l;
            for (int steps = 1; steps <= MOST_ANSWERS; steps++) {
                at = bestAnswer[at];
                if (at == 0) {
                    return NONE;
                }
                int ahead = l;
                for (int i = 0; i < steps; i++) {
                    if (ahead == at) {
                        return steps;
                    }
                    ahead = bestAnswer[ahead];
                }
            }
            return NONE;
        }

        int bestSet(int size) {
            int found = 0;
            int most = -1;
            for (int s = 0; s < SETS; s++) {
                if (Integer.bitCount(s) == size) {
                    int many = countWithin(s);
                    if (many > most) {
                        found = s;
                        most = many;
                    }
                }
            }
            return found;
        }

        int countWithin(int signs) {
            int many = 0;
            for (int s = 0; s < SETS; s++) {
                if ((s & ~signs) == 0) {
                    many += lettersOfSet[s];
                }
            }
            return many;
        }

        int countAsked(int l, int row) {
            int many = 0;
            for (int m = 1; m < ROWS; m++) {
                if (isAnswer(l, m) && kindRow[m] == row) {
                    many++;
                }
            }
            return many;
        }
    }

    /** The letters that were written, or an image of them. */
    private static final class Post {
        final int[] rows = new int[MOST_WRITTEN];
        int many;
        boolean kept;

        void become(Post from) {
            many = from.many;
            for (int i = 0; i < many; i++) {
                rows[i] = from.rows[i];
            }
        }

        int timesOf(int w) {
            int times = 0;
            for (int i = 0; i < many; i++) {
                int rest = rows[i];
                for (int place = 0; place < MOST_IN_ROW; place++) {
                    if (rest % 10 == w + 1) {
                        times++;
                    }
                    rest /= 10;
                }
            }
            return times;
        }
    }
}
