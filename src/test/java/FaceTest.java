import java.io.IOException;
import java.lang.reflect.Constructor;
import java.lang.reflect.Field;
import java.lang.reflect.Method;
import java.lang.reflect.Modifier;
import java.nio.charset.StandardCharsets;
import java.nio.file.Files;
import java.nio.file.Path;
import java.util.Arrays;
import java.util.List;
import java.util.Set;
import java.util.TreeSet;
import java.util.regex.Matcher;
import java.util.regex.Pattern;

/** The public face as the document gives it, and the rules of LANGUAGE.md that a look can tell. */
public final class FaceTest {
    private static final String FACE = "person(int,int,int) personOf(int,int) thing(int,int) of(int,int) "
        + "by(int,int,int) set(int,int,int) turn(int,int) as(int,int) leave(int) goesTo(int) years(int) now(int) "
        + "on(int,int,int) then(int,int,int) finished(int) comes(int,int) all() give(int) kind(int) "
        + "zeal(int,int,int) skill(int,int) maker(int) drop(int) feed(int,int) wipe() common() sheet(int,int,int) "
        + "write(int,int,long) copy(int,int,int,int,int) lays(int) book(int,int) read(int,int,int) image() undo() "
        + "tear() count(int) status(int)";
    private static final Path SOURCE = Path.of("src/main/java/UnfinishedFair.java");
    private static final int MOST_LINES = 60;
    private static final int MOST_PARAMETERS = 7;

    private static int wrong = 0;

    private static void hold(boolean holds, String what) {
        if (!holds) {
            wrong++;
            System.out.println("not so: " + what);
        }
    }

    private static String told(Method m) {
        StringBuilder text = new StringBuilder(m.getName()).append('(');
        for (Class<?> type : m.getParameterTypes()) {
            text.append(text.charAt(text.length() - 1) == '(' ? "" : ",").append(type.getSimpleName());
        }
        return text.append(')').toString();
    }

    private static void face() {
        Class<?> fair = UnfinishedFair.class;
        hold(Modifier.isFinal(fair.getModifiers()) && Modifier.isPublic(fair.getModifiers()), "public and final");
        Set<String> due = new TreeSet<>(List.of(FACE.split(" ")));
        Set<String> open = new TreeSet<>();
        for (Method m : fair.getDeclaredMethods()) {
            if (Modifier.isPublic(m.getModifiers())) {
                open.add(told(m));
                Class<?> answer = m.getName().equals("write") ? long.class : int.class;
                hold(m.getReturnType() == answer && !Modifier.isStatic(m.getModifiers()), "type of " + told(m));
            } else {
                hold(Modifier.isPrivate(m.getModifiers()), m.getName() + " is private");
                hold(!FACE.matches(".*\\b" + m.getName() + "\\(.*"), m.getName() + " is no public one's name");
            }
        }
        hold(open.equals(due), "the face is " + open);
        hold(due.size() == 37, "37 methods");
        for (Field f : fair.getDeclaredFields()) {
            hold(Modifier.isPrivate(f.getModifiers()), f.getName() + " is private");
        }
        Constructor<?>[] made = fair.getDeclaredConstructors();
        hold(made.length == 1 && made[0].getParameterCount() == 0 && Modifier.isPublic(made[0].getModifiers()),
            "one public constructor");
    }

    private static void inside(Class<?> c) {
        hold(Modifier.isStatic(c.getModifiers()), c + " is static");
        for (Method m : c.getDeclaredMethods()) {
            hold(m.getParameterCount() <= MOST_PARAMETERS, m + " takes few");
            hold(!FACE.matches(".*\\b" + m.getName() + "\\(.*"), m + " is no public one's name");
        }
        for (Field f : c.getDeclaredFields()) {
            hold(!Modifier.isStatic(f.getModifiers()) || Modifier.isFinal(f.getModifiers()), f + " is final");
        }
    }

    /** The source without its comments, and with its texts emptied. */
    private static String bare() throws IOException {
        String text = Files.readString(SOURCE, StandardCharsets.US_ASCII);
        return text.replaceAll("(?s)/\\*.*?\\*/", "").replaceAll("//[^\n]*", "").replaceAll("\"[^\"\n]*\"", "\"\"");
    }

    private static void words() throws IOException {
        String code = bare();
        for (String word : new String[] {"throw", "throws", "try", "catch", "synchronized", "assert", "protected",
            "package", "Object", "Thread", "Random", "native", "volatile", "transient", "goto", "Exact", "hashCode",
            "toString", "static \\{", "yield", "var", "->", "::", "@\\w+", "float", "double"}) {
            String edge = Character.isLetter(word.charAt(0)) ? "\\b" : "";
            Matcher m = Pattern.compile(edge + word + (word.matches("\\w+") ? "\\b" : "")).matcher(code);
            hold(!m.find(), "no " + word);
        }
        Matcher imports = Pattern.compile("import ([\\w.]+);").matcher(code);
        while (imports.find()) {
            hold(imports.group(1).equals("java.util.Arrays"), "import " + imports.group(1));
        }
        Set<String> library = new TreeSet<>(Arrays.asList("Arrays.fill", "Math.max", "Math.min", "System.arraycopy",
            "Integer.bitCount"));
        Matcher calls = Pattern.compile("\\b(Arrays|Math|System|Integer|Long|String)\\.(\\w+)").matcher(code);
        while (calls.find()) {
            hold(library.contains(calls.group()), calls.group() + " is in the library's part");
        }
    }

    private static void methodsAreShort() throws IOException {
        int from = -1;
        String[] lines = Files.readString(SOURCE).split("\n");
        for (int i = 0; i < lines.length; i++) {
            if (lines[i].matches(" {4}(?: {4})?[a-z][\\w\\[\\] ]*\\(.*\\) \\{") && !lines[i].matches(".*\\b(if|for|while|switch)\\b.*")) {
                from = i;
            }
            if (from >= 0 && lines[i].equals(lines[from].replaceAll("\\S.*", "") + "}")) {
                hold(i - from < MOST_LINES, "short: " + lines[from].trim());
                from = -1;
            }
        }
    }

    public static void main(String[] args) throws IOException {
        face();
        Class<?>[] classes = UnfinishedFair.class.getDeclaredClasses();
        hold(classes.length <= 11, "at most twelve classes");
        for (Class<?> c : classes) {
            inside(c);
        }
        words();
        methodsAreShort();
        System.out.println(wrong == 0 ? "the face and the language are as due" : wrong + " not as due");
        if (wrong != 0) {
            System.exit(1);
        }
    }
}
