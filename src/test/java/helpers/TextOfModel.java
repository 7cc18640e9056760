import java.util.ArrayList;
import java.util.List;
import java.util.regex.Matcher;
import java.util.regex.Pattern;

/** Reads a text by one pattern for all tokens and one for what may stand next. */
final class TextOfModel {
    private static final Pattern TOKEN = Pattern.compile("[a-z]+|[0-9]+|[^ ]", Pattern.DOTALL);

    final List<Model.Word> words = new ArrayList<>();
    final List<List<Integer>> shapes = new ArrayList<>();
    int fault = -1;

    TextOfModel(String text) {
        List<String> item = new ArrayList<>();
        Matcher tokens = TOKEN.matcher(text);
        while (tokens.find()) {
            item.add(tokens.group());
            if (!canStand(item)) {
                fault = tokens.start();
                return;
            }
            if (tokens.group().equals(";")) {
                add(item);
                item.clear();
            }
        }
        if (!item.isEmpty()) {
            fault = text.length();
        }
    }

    private boolean canStand(List<String> item) {
        String last = item.get(item.size() - 1);
        int place = item.size() - 1;
        if (place == 0) {
            return last.equals("word") && words.size() < 9 || last.equals("shape") && shapes.size() < 4;
        }
        if (item.get(0).equals("word")) {
            return last.matches(List.of("", "[a-h]{1,5}", "[0-2]", "[0-9]", "[0-9]", ";").get(place));
        }
        return last.matches(List.of("", "[0-2]", "[0-2]|;", "[0-2]|;", ";").get(place));
    }

    private void add(List<String> item) {
        if (item.get(0).equals("word")) {
            words.add(new Model.Word(item.get(1), Integer.parseInt(item.get(2)), Integer.parseInt(item.get(3)),
                    Integer.parseInt(item.get(4))));
        } else {
            shapes.add(item.subList(1, item.size() - 1).stream().map(Integer::parseInt).toList());
        }
    }
}
