import java.lang.reflect.Method;
import java.nio.file.Files;
import java.nio.file.Path;
import java.util.ArrayList;
import java.util.List;
import java.util.regex.Matcher;
import java.util.regex.Pattern;

/** The answers that README.md shows, made in its order on one object, so that the page cannot tell what is not so. */
public final class ReadmeTest {
    private static final Pattern TYPED =
        Pattern.compile("^for \\(char c : \"([^\"]*)\"\\.toCharArray\\(\\)\\) x\\.type\\((\\d), c\\);", Pattern.MULTILINE);
    private static final Pattern CALL =
        Pattern.compile("^x\\.(\\w+)\\(([-\\d, ]*)\\); +// (-?\\d+): ", Pattern.MULTILINE);
    /** Lines that show a call, in whatever form: each must be one of those that are tried. */
    private static final Pattern SHOWN = Pattern.compile("^x\\.", Pattern.MULTILINE);

    public static void main(String[] args) throws Exception {
        String page = Files.readString(Path.of("README.md"));
        HabitWill x = new HabitWill();
        int texts = 0;
        for (Matcher typed = TYPED.matcher(page); typed.find(); texts++) {
            Due.typeAll(x, Integer.parseInt(typed.group(2)), typed.group(1));
        }
        Due.is("texts typed in README.md", texts, 3);
        int calls = 0;
        for (Matcher call = CALL.matcher(page); call.find(); calls++) {
            long due = Long.parseLong(call.group(3));
            Due.is("README.md: " + call.group(1) + "(" + call.group(2) + ")", answer(x, call.group(1), call.group(2)), due);
        }
        Due.is("calls shown in README.md and tried", calls, SHOWN.matcher(page).results().count());
        everyCallIsNamed(page);
        Due.end();
    }

    private static long answer(HabitWill x, String name, String numbers) throws Exception {
        List<Object> given = new ArrayList<>();
        for (String number : numbers.isBlank() ? new String[0] : numbers.split(",")) {
            given.add(Integer.parseInt(number.trim()));
        }
        Class<?>[] types = new Class<?>[given.size()];
        java.util.Arrays.fill(types, int.class);
        return ((Number) HabitWill.class.getMethod(name, types).invoke(x, given.toArray())).longValue();
    }

    private static void everyCallIsNamed(String page) {
        for (Method method : HabitWill.class.getDeclaredMethods()) {
            if (java.lang.reflect.Modifier.isPublic(method.getModifiers())) {
                boolean named = page.contains("`" + method.getName() + "`");
                Due.is("README.md names " + method.getName(), named ? 1 : 0, 1);
            }
        }
    }
}
