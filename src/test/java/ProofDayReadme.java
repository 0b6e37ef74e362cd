import java.io.IOException;
import java.lang.reflect.Method;
import java.lang.reflect.Modifier;
import java.nio.file.DirectoryStream;
import java.nio.file.Files;
import java.nio.file.Path;
import java.util.regex.Matcher;
import java.util.regex.Pattern;

/** README.md says what is so: its example answers as told, and no call and no test is missing from it. */
public final class ProofDayReadme {
    private static final Pattern TYPED =
        Pattern.compile("for \\(char c : \"([^\"]*)\"\\.toCharArray\\(\\)\\) day\\.type\\((\\d), c\\);.*");
    private static final Pattern ASKED = Pattern.compile("day\\.(\\w+)\\(([^)]*)\\);\\s*// (-?\\d+): .*");

    private static int wrong = 0;
    private static int right = 0;

    private static void holds(boolean so, String what) {
        if (so) {
            right++;
        } else {
            wrong++;
            System.out.println("not so: " + what);
        }
    }

    public static void main(String[] args) throws Exception {
        // .ci/run starts the tests from the root of the project.
        String page = Files.readString(Path.of("README.md"));
        example(page);
        calls(page);
        tests(page);
        System.out.println(wrong == 0 ? right + " things in README.md are so" : wrong + " things are not so");
        if (wrong != 0) {
            System.exit(1);
        }
    }

    private static void example(String page) throws ReflectiveOperationException {
        Matcher block = Pattern.compile("(?s)```java\n(.*?)```").matcher(page);
        boolean there = block.find();
        holds(there, "README.md has an example");
        if (!there) {
            return;
        }
        ProofDay day = new ProofDay();
        int asked = 0;
        for (String row : block.group(1).split("\n")) {
            Matcher typed = TYPED.matcher(row);
            Matcher question = ASKED.matcher(row);
            if (row.equals("ProofDay day = new ProofDay();")) {
                day = new ProofDay();
            } else if (typed.matches()) {
                for (char c : typed.group(1).toCharArray()) {
                    day.type(Integer.parseInt(typed.group(2)), c);
                }
            } else if (question.matches()) {
                asked++;
                long got = answer(day, question.group(1), question.group(2));
                holds(got == Long.parseLong(question.group(3)), row + " (it answers " + got + ")");
            } else {
                // A row that can't be tried could say anything.
                holds(false, "this row of the example can be tried: " + row);
            }
        }
        holds(asked > 0, "the example asks something");
    }

    private static long answer(ProofDay day, String name, String numbers) throws ReflectiveOperationException {
        String[] told = numbers.isBlank() ? new String[0] : numbers.split(",");
        Class<?>[] types = new Class<?>[told.length];
        Object[] values = new Object[told.length];
        for (int i = 0; i < told.length; i++) {
            types[i] = int.class;
            values[i] = Integer.valueOf(told[i].trim());
        }
        return ((Number) ProofDay.class.getMethod(name, types).invoke(day, values)).longValue();
    }

    private static void calls(String page) {
        Matcher table = Pattern.compile("(?s)### Calls\n(.*?)\n#").matcher(page);
        boolean there = table.find();
        holds(there, "README.md has a table of calls");
        if (!there) {
            return;
        }
        for (Method m : ProofDay.class.getDeclaredMethods()) {
            if (Modifier.isPublic(m.getModifiers())) {
                holds(table.group(1).contains("`" + m.getName() + "`"), "the table of calls has " + m.getName());
            }
        }
    }

    private static void tests(String page) throws IOException {
        try (DirectoryStream<Path> files = Files.newDirectoryStream(Path.of("src", "test", "java"), "*.java")) {
            for (Path file : files) {
                String name = file.getFileName().toString().replace(".java", "");
                holds(page.contains("- `" + name + "`: "), "README.md tells of the test " + name);
            }
        }
    }
}
