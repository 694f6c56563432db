import java.lang.reflect.Constructor;
import java.lang.reflect.Field;
import java.lang.reflect.Method;
import java.lang.reflect.Modifier;
import java.nio.file.Files;
import java.nio.file.Path;
import java.util.Arrays;
import java.util.List;
import java.util.Set;
import java.util.TreeSet;
import java.util.regex.Matcher;
import java.util.regex.Pattern;

/** What can be seen of ../shared/LANGUAGE.md in the compiled class and in its text. */
public final class LanguageTest {
    private static final String[] FACE = {
        "int come(int)", "int line(int,int)", "int cut(int,int)", "int set(int,int)", "int back(int,int)",
        "int fall(int)", "int leave(int,int)", "int talk(int,int,int)", "int send(int,int)", "int bring(int)",
        "int lose(int)", "int seed(int)", "int draw(int,int)", "int round(int,int)", "int fresh()", "int undo()",
        "int about(int,int)", "long mass(int,boolean)", "long guess(int)", "long book(int,int,boolean)",
        "long letter(int,int)", "long owed(boolean)", "long all(boolean)", "long far()", "int unsure()",
        "long many(int)", "int ticket(int,int)", "int fewest(int)", "int plan(int)", "int count(int)", "long digest()"};
    private static final Set<String> LIBRARY = Set.of("Integer.bitCount", "Math.max", "Math.min", "System.arraycopy");
    private static final String WORDS = "import|package|protected|throw|try|catch|finally|synchronized|assert|instanceof"
        + "|Double|Float|Object|var|float|volatile|transient|native|yield|record|sealed";
    private static final int LONGEST_METHOD = 60, MOST_CLASSES = 12, MOST_FIELDS = 20, MOST_PARAMETERS = 7;

    private static int wrong = 0;

    private static void hold(boolean holds, String what) {
        if (holds) return;
        wrong++;
        System.out.println(what);
    }

    private static String header(Method m) {
        StringBuilder text = new StringBuilder(m.getReturnType().getSimpleName() + " " + m.getName() + "(");
        for (Class<?> type : m.getParameterTypes()) text.append(text.toString().endsWith("(") ? "" : ",").append(type);
        return text.append(")").toString();
    }

    private static void theFace() {
        Class<?> type = WhisperCrowd.class;
        Set<String> open = new TreeSet<>();
        for (Method m : type.getDeclaredMethods()) {
            if (!Modifier.isPrivate(m.getModifiers())) open.add(header(m));
            hold(!Modifier.isPublic(m.getModifiers()) || !Modifier.isStatic(m.getModifiers()), m + " is static");
        }
        hold(open.equals(new TreeSet<>(Arrays.asList(FACE))), "the face is " + open);
        hold(Modifier.isFinal(type.getModifiers()), "the class is not final");
        Constructor<?>[] made = type.getDeclaredConstructors();
        hold(made.length == 1 && made[0].getParameterCount() == 0, "there is not the one constructor");
        Set<String> constants = new TreeSet<>();
        for (Field f : type.getDeclaredFields()) {
            if (!Modifier.isPrivate(f.getModifiers())) constants.add(f.getName());
        }
        hold(constants.equals(Set.of("BAD", "NO", "FULL", "NONE")), "the constants are " + constants);
    }

    private static void theClasses() {
        Set<String> names = new TreeSet<>();
        for (String header : FACE) names.add(header.substring(header.indexOf(' ') + 1, header.indexOf('(')));
        Class<?>[] inside = WhisperCrowd.class.getDeclaredClasses();
        hold(inside.length < MOST_CLASSES, "there are " + inside.length + " classes inside");
        for (Class<?> type : inside) {
            hold(Modifier.isStatic(type.getModifiers()), type + " is not static");
            int fields = 0;
            for (Field f : type.getDeclaredFields()) fields += Modifier.isStatic(f.getModifiers()) ? 0 : 1;
            hold(fields <= MOST_FIELDS, type + " has " + fields + " fields");
            for (Method m : type.getDeclaredMethods()) hold(!names.contains(m.getName()), m + " bears a public name");
        }
        for (Method m : WhisperCrowd.class.getDeclaredMethods()) {
            hold(!Modifier.isPrivate(m.getModifiers()) || !names.contains(m.getName()), m + " bears a public name");
            hold(m.getParameterCount() <= MOST_PARAMETERS, m + " has too many parameters");
        }
    }

    private static void theWords(String text) {
        Matcher word = Pattern.compile("\\b(" + WORDS + ")\\b|->|::|@").matcher(text);
        while (word.find()) hold(false, "the text has: " + word.group());
        Matcher call = Pattern.compile("\\b([A-Z][a-z]\\w*\\.\\w+)").matcher(text);
        while (call.find()) hold(LIBRARY.contains(call.group()), "the text has: " + call.group());
        Matcher fixed = Pattern.compile("\\bstatic (?!final)\\w+ \\w+( =|;)").matcher(text);
        while (fixed.find()) hold(false, "a static field is not final: " + fixed.group());
        hold(text.chars().allMatch(c -> c < 128), "a sign of the text is above 127");
    }

    private static void theMethods(List<String> lines) {
        int start = 0;
        for (int i = 0; i < lines.size(); i++) {
            if (lines.get(i).matches(" +[\\w\\[\\] ]+\\([\\w\\[\\], ]*\\) \\{")) start = i;
            if (lines.get(i).matches(" +\\}")) hold(i - start < LONGEST_METHOD, "a long method ends in line " + (i + 1));
        }
    }

    public static void main(String[] args) throws Exception {
        Path file = Path.of("src/main/java/WhisperCrowd.java");
        String code = Files.readString(file).replaceAll("(?s)/\\*.*?\\*/", "").replaceAll("//[^\n]*", "");
        theFace();
        theClasses();
        theWords(code);
        theMethods(Files.readAllLines(file));
        System.out.println(wrong == 0 ? "the language is kept to" : wrong + " rules are broken");
        if (wrong != 0) System.exit(1);
    }
}
