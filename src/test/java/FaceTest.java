import java.io.IOException;
import java.lang.reflect.Constructor;
import java.lang.reflect.Field;
import java.lang.reflect.Method;
import java.lang.reflect.Modifier;
import java.nio.file.Files;
import java.nio.file.Path;
import java.util.Arrays;
import java.util.Set;
import java.util.TreeSet;
import java.util.regex.Matcher;
import java.util.regex.Pattern;

/** The document's face and nothing beside it, and those rules of LANGUAGE.md that a look at the file can tell. */
public final class FaceTest {
    private static final Path PROGRAM = Path.of("src/main/java/SameLetters.java");

    private static final Set<String> METHODS = Set.of("int type(long,int)", "int clear()", "int tongue()",
            "int word(int,int)", "int spell(int,int)", "int shape(int,int)", "int letter(int,int)",
            "int has(int,int)", "int write(int)", "int undo()", "int wrote(int)", "int side(int)", "int says(int)",
            "int answers(int,int,int)", "int mute(int)", "int best(int)", "int bar(int,int)", "int chain(int,int)",
            "int ring(int)", "int alphabet(int,int)", "int asked(int,int)", "int rate(int,int)", "int keep(int)",
            "int back(int)", "int count(int)", "long trace()");
    private static final Set<String> CONSTANTS = Set.of("BAD", "STATE", "FULL", "NONE", "NO");
    private static final int SHOWN = Modifier.PUBLIC | Modifier.PROTECTED;

    public static void main(String[] args) throws IOException {
        publicClass();
        methods();
        fields();
        classesInside();
        source();
        Check.end();
    }

    private static void publicClass() {
        int modifiers = SameLetters.class.getModifiers();
        Check.holds("public and final", Modifier.isPublic(modifiers) && Modifier.isFinal(modifiers));
        Constructor<?>[] constructors = SameLetters.class.getDeclaredConstructors();
        Check.due("constructors", constructors.length, 1);
        Check.holds("public constructor of nothing",
                Modifier.isPublic(constructors[0].getModifiers()) && constructors[0].getParameterCount() == 0);
    }

    private static void methods() {
        Set<String> shown = new TreeSet<>();
        for (Method method : SameLetters.class.getDeclaredMethods()) {
            boolean isPrivate = Modifier.isPrivate(method.getModifiers());
            if (!isPrivate) {
                shown.add(told(method));
                Check.due("modifiers of " + told(method), method.getModifiers(), Modifier.PUBLIC);
            }
            Check.holds(method.getName() + " has seven parameters at most", method.getParameterCount() <= 7);
        }
        Check.holds("methods of the face: " + shown, shown.equals(METHODS));
        Set<String> hidden = new TreeSet<>();
        for (Class<?> inside : SameLetters.class.getDeclaredClasses()) {
            Arrays.stream(inside.getDeclaredMethods()).forEach(method -> hidden.add(method.getName()));
        }
        Arrays.stream(SameLetters.class.getDeclaredMethods())
                .filter(method -> Modifier.isPrivate(method.getModifiers()))
                .forEach(method -> hidden.add(method.getName()));
        for (String face : METHODS) {
            String name = face.substring(face.indexOf(' ') + 1, face.indexOf('('));
            Check.holds("no private method is named " + name, !hidden.contains(name));
        }
    }

    private static String told(Method method) {
        StringBuilder told = new StringBuilder();
        told.append(method.getReturnType().getName()).append(' ').append(method.getName()).append('(');
        for (Class<?> type : method.getParameterTypes()) {
            told.append(told.charAt(told.length() - 1) == '(' ? "" : ",").append(type.getName());
        }
        return told.append(')').toString();
    }

    private static void fields() {
        Set<String> shown = new TreeSet<>();
        int all = Modifier.PUBLIC | Modifier.STATIC | Modifier.FINAL;
        for (Field field : SameLetters.class.getDeclaredFields()) {
            if (!Modifier.isPrivate(field.getModifiers())) {
                shown.add(field.getName());
                Check.due("modifiers of " + field.getName(), field.getModifiers(), all);
                Check.holds(field.getName() + " is an int", field.getType() == int.class);
            }
            staticIsFinal(field);
        }
        Check.holds("constants of the face: " + shown, shown.equals(CONSTANTS));
    }

    private static void staticIsFinal(Field field) {
        int modifiers = field.getModifiers();
        Check.holds(field + " is no changing static", !Modifier.isStatic(modifiers) || Modifier.isFinal(modifiers));
    }

    private static void classesInside() {
        Class<?>[] inside = SameLetters.class.getDeclaredClasses();
        Check.holds("some twelve classes at most", inside.length <= 11);
        for (Class<?> one : inside) {
            Check.holds(one + " is static", Modifier.isStatic(one.getModifiers()));
            Check.holds(one + " is not shown", (one.getModifiers() & SHOWN) == 0);
            Arrays.stream(one.getDeclaredFields()).forEach(FaceTest::staticIsFinal);
            Check.holds(one + " has some twenty fields at most", Arrays.stream(one.getDeclaredFields())
                    .filter(field -> !Modifier.isStatic(field.getModifiers())).count() <= 20);
        }
    }

    private static void source() throws IOException {
        String code = Files.readString(PROGRAM);
        Check.holds("signs 10, 32 .. 126 alone", code.chars().allMatch(c -> c == '\n' || c >= 32 && c < 127));
        String bare = code.replaceAll("(?s)/\\*.*?\\*/", "").replaceAll("//[^\n]*", "");
        String[] ruledOut = {"package", "import", "throw", "throws", "try", "catch", "finally", "synchronized",
            "assert", "instanceof", "protected", "volatile", "transient", "native", "strictfp", "var", "hashCode",
            "toString", "Object", "System", "Random", "Thread", "float", "double"};
        for (String word : ruledOut) {
            Check.holds("no " + word, !Pattern.compile("\\b" + word + "\\b").matcher(bare).find());
        }
        Check.holds("no lambda", !bare.contains("->"));
        Check.holds("no method reference", !bare.contains("::"));
        Check.holds("no annotation", !bare.contains("@"));
        Check.holds("no loop without a bound", !bare.contains("while (true)") && !bare.contains("for (;;)"));
        methodsAreShort(bare);
        madeInConstructorsAlone(bare);
    }

    private static void methodsAreShort(String bare) {
        String[] lines = bare.split("\n");
        int methods = 0;
        for (int at = 0; at < lines.length; at++) {
            String indent = lines[at].replaceAll("\\S.*", "");
            boolean isMethod = lines[at].matches(" +(\\w+ )*\\w+(\\[\\])? ?\\w*\\([^()]*\\) \\{")
                    && !lines[at].matches(" +(if|for|while|switch) .*");
            if (isMethod) {
                int end = at;
                while (end < lines.length && !lines[end].equals(indent + "}")) {
                    end++;
                }
                methods++;
                Check.holds("sixty lines at most: " + lines[at], end - at < 60);
            }
        }
        Check.holds("all methods were looked at: " + methods, methods > METHODS.size() + 30);
    }

    /** All calls of a run live in one room: rows are made with the object, and none by a call. */
    private static void madeInConstructorsAlone(String bare) {
        Matcher made = Pattern.compile("\n( *)([^\n]*\\bnew\\b[^\n]*)").matcher(bare);
        while (made.find()) {
            String ahead = bare.substring(0, made.start(2));
            String line = made.group(2);
            boolean isField = line.matches("(private )?final [A-Za-z]+\\[\\] [A-Za-z]+ = new .*");
            boolean inConstructor = ahead.lastIndexOf("SameLetters() {") > ahead.lastIndexOf("public int")
                    || ahead.lastIndexOf("Tongue() {") > ahead.lastIndexOf("boolean ");
            Check.holds("made with the object: " + line, isField || inConstructor);
        }
    }
}
