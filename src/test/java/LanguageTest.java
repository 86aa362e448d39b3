import java.io.IOException;
import java.lang.reflect.Constructor;
import java.lang.reflect.Field;
import java.lang.reflect.Method;
import java.lang.reflect.Modifier;
import java.nio.file.Files;
import java.nio.file.Path;
import java.util.Set;
import java.util.TreeSet;
import java.util.regex.Matcher;
import java.util.regex.Pattern;

/** The public face as the document tells it, and those rules of LANGUAGE.md that a look at the source can hold. */
public final class LanguageTest {
    private static final String SOURCE = "src/main/java/HabitWill.java";
    private static final String[] FACE = {
        "int type(int,int)", "int wipe(int)", "int undo(int)", "int fault(int)", "int habit(int,int)",
        "int heir(int,int)", "int clause(int,int)", "int refuse(int,int)", "int back()", "int value(int,int,int)",
        "int with(int)", "int has(int,int)", "int does(int,int)", "int done()", "int quarrel(int)", "int best(int)",
        "int write(int,int)", "int part(int,int,int)", "int seen(int,int,int)", "int forget()", "int read(int)",
        "int whose(int)", "int look(int,int)", "long march(int,int,int,int)", "int wills(int,int,int)",
        "int sheet(int,int,int)", "int lose(int)", "int lay(int,int,int,int)", "int get(int,int,int)",
        "int copy(int,int,int,int,int)", "int hours(int,int)", "int count(int)", "long digest()"};
    private static final String[] RULED_OUT = {
        "throw", "throws", "try", "catch", "finally", "synchronized", "assert", "->", "::", "hashCode", "toString",
        "System.out", "Thread", "Random", "Exact", "@", "NaN", "var", "volatile", "transient", "native", "package",
        "protected", "import static", "while (true)", "for (;;)"};

    public static void main(String[] args) throws IOException {
        constants();
        face();
        members();
        source();
        Due.end();
    }

    private static void constants() {
        Due.is("NONE", HabitWill.NONE, -1);
        Due.is("BAD", HabitWill.BAD, -2);
        Due.is("NOT", HabitWill.NOT, -3);
        Due.is("FULL", HabitWill.FULL, -4);
    }

    private static void face() {
        Set<String> want = new TreeSet<>(Set.of(FACE));
        Set<String> got = new TreeSet<>();
        Set<String> names = new TreeSet<>();
        for (Method method : HabitWill.class.getDeclaredMethods()) {
            if (Modifier.isPublic(method.getModifiers())) {
                StringBuilder text = new StringBuilder(method.getReturnType() + " " + method.getName() + "(");
                for (Class<?> type : method.getParameterTypes()) {
                    text.append(text.charAt(text.length() - 1) == '(' ? "" : ",").append(type);
                }
                got.add(text.append(")").toString());
                names.add(method.getName());
            }
        }
        if (!want.equals(got)) {
            System.out.println("the face is " + got);
        }
        Due.is("the face is the document's", want.equals(got) ? 1 : 0, 1);
        for (Method method : HabitWill.class.getDeclaredMethods()) {
            boolean clash = Modifier.isPrivate(method.getModifiers()) && names.contains(method.getName());
            Due.is("a private " + method.getName() + " beside a public one", clash ? 1 : 0, 0);
            Due.is("parameters of " + method.getName(), method.getParameterCount() <= 7 ? 1 : 0, 1);
        }
    }

    private static void members() {
        Due.is("final", Modifier.isFinal(HabitWill.class.getModifiers()) ? 1 : 0, 1);
        Constructor<?>[] made = HabitWill.class.getDeclaredConstructors();
        Due.is("one public constructor", made.length == 1 && Modifier.isPublic(made[0].getModifiers()) ? 1 : 0, 1);
        for (Method method : HabitWill.class.getDeclaredMethods()) {
            int m = method.getModifiers();
            Due.is(method + " is public or private", Modifier.isPublic(m) || Modifier.isPrivate(m) ? 1 : 0, 1);
        }
        Set<String> constants = Set.of("NONE", "BAD", "NOT", "FULL");
        for (Field field : HabitWill.class.getDeclaredFields()) {
            boolean well = Modifier.isPublic(field.getModifiers()) == constants.contains(field.getName())
                && (Modifier.isPrivate(field.getModifiers()) || constants.contains(field.getName()));
            Due.is(field + " is a constant of the face or private", well ? 1 : 0, 1);
        }
        Class<?>[] inside = HabitWill.class.getDeclaredClasses();
        Due.is("at most twelve classes", inside.length + 1 <= 12 ? 1 : 0, 1);
        for (Class<?> c : inside) {
            Due.is(c + " is static", Modifier.isStatic(c.getModifiers()) ? 1 : 0, 1);
            for (Field field : c.getDeclaredFields()) {
                boolean well = !Modifier.isStatic(field.getModifiers()) || Modifier.isFinal(field.getModifiers());
                Due.is(field + " holds no static state", well ? 1 : 0, 1);
            }
        }
    }

    private static void source() throws IOException {
        String text = Files.readString(Path.of(SOURCE));
        String code = text.replaceAll("(?s)/\\*.*?\\*/", "").replaceAll("//.*", "");
        for (String word : RULED_OUT) {
            boolean isWord = Character.isLetter(word.charAt(0)) && !word.endsWith(")");
            String pattern = isWord && !word.equals("Exact") ? "\\b" + Pattern.quote(word) + "\\b" : Pattern.quote(word);
            Due.is("'" + word + "' stands in the source", Pattern.compile(pattern).matcher(code).find() ? 1 : 0, 0);
        }
        Matcher imports = Pattern.compile("import ([\\w.]+);").matcher(code);
        while (imports.find()) {
            boolean well = Set.of("java.util.Arrays", "java.util.ArrayList", "java.util.List").contains(imports.group(1));
            Due.is("import of " + imports.group(1), well ? 1 : 0, 1);
        }
        boolean ascii = text.chars().allMatch(c -> c == '\n' || c >= 32 && c < 127);
        Due.is("plain signs only", ascii ? 1 : 0, 1);
    }
}
