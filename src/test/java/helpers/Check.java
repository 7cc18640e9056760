/** Counts the answers that are as due, prints those that are not, and types texts as the document has it. */
final class Check {
    private static int passed = 0;
    private static int failed = 0;

    private Check() {
    }

    static void due(String what, long got, long want) {
        if (got == want) {
            passed++;
        } else {
            failed++;
            System.out.println(what + " answered " + got + ", due is " + want);
        }
    }

    static void holds(String what, boolean is) {
        due(what, is ? 1 : 0, 1);
    }

    /** Types a text in rows of eight bytes; answers what the last type() answered. */
    static int typed(SameLetters x, String text) {
        int answer = x.count(3);
        for (int at = 0; at < text.length(); at += 8) {
            String row = text.substring(at, Math.min(at + 8, text.length()));
            long bytes = 0;
            for (int i = 0; i < row.length(); i++) {
                bytes = bytes << 8 | row.charAt(i);
            }
            answer = x.type(bytes, row.length());
        }
        return answer;
    }

    /** A new object that was told a text of so many items. */
    static SameLetters told(String text, int items) {
        SameLetters x = new SameLetters();
        typed(x, text);
        due("tongue() of «" + text + "»", x.tongue(), items);
        return x;
    }

    /** A text with a fault: its place is told, and neither the text nor the tongue that was told ahead changes. */
    static void fault(String text, int place) {
        SameLetters x = told("word a 0 1 2;word b 1 0 0;shape 0;", 3);
        x.write(1);
        typed(x, text);
        for (int time = 1; time <= 2; time++) {
            due("tongue() of «" + text + "», time " + time, x.tongue(), -10 - place);
            due("the text stays: «" + text + "»", x.count(3), text.length());
            due("the words stay: «" + text + "»", x.count(0), 2);
            due("the shapes stay: «" + text + "»", x.count(1), 1);
            due("what was written stays: «" + text + "»", x.wrote(0), 1);
        }
    }

    static void end() {
        System.out.println(passed + " answers as due, " + failed + " not");
        if (failed != 0 || passed == 0) {
            System.exit(1);
        }
    }
}
