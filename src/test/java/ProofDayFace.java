import java.lang.reflect.Field;
import java.lang.reflect.Method;
import java.lang.reflect.Modifier;
import java.nio.file.Files;
import java.nio.file.Path;
import java.util.Set;
import java.util.TreeSet;
import java.util.regex.Matcher;
import java.util.regex.Pattern;

/** The face of the class is the document's and no more, and its source keeps to words that LANGUAGE.md leaves. */
public final class ProofDayFace {
    private static final String FACE = "int type(int,int);int wipe(int);int undo(int);int fault(int);"
        + "int line(int,int);int reader(int,int);int shift(int,int);int limit(int);int event(int,int,int);"
        + "int back();int read(int);int margin(int,int);int night(int,int);int done(int,int);int marked(int);"
        + "int harm();int worst();int left(int);int more(int);int late();int turn(int);int hush(int);"
        + "int seen(int,int,int);int forget();int never();int keens(int);int kind(int);int ask(int);"
        + "long chance(int,int,int);int days(int,int,int);int sheet(int,int,int);int lose(int);"
        + "int lay(int,int,int,int);int get(int,int,int);int copy(int,int,int,int,int);int write(int);"
        + "int count(int);long digest()";
    private static final String LEFT_OUT = "throw|throws|try|catch|finally|synchronized|assert|native|volatile|"
        + "transient|strictfp|protected|package|var|Thread|Random|Exception|Error|Object|Map|Set|\\w+Exact|->|::";
    private static final Set<String> IMPORTS = Set.of("java.util.Arrays", "java.util.ArrayList", "java.util.List");

    private static int wrong = 0;

    private static void holds(boolean so, String what) {
        if (!so) {
            wrong++;
            System.out.println("not so: " + what);
        }
    }

    public static void main(String[] args) throws Exception {
        methods();
        fields();
        classes();
        source();
        System.out.println(wrong == 0 ? "the face is as due" : wrong + " things are not as due");
        if (wrong != 0) {
            System.exit(1);
        }
    }

    private static void methods() {
        Set<String> due = new TreeSet<>(Set.of(FACE.split(";")));
        Set<String> names = new TreeSet<>();
        Set<String> got = new TreeSet<>();
        for (Method m : ProofDay.class.getDeclaredMethods()) {
            if (Modifier.isPrivate(m.getModifiers())) {
                continue;
            }
            names.add(m.getName());
            holds(m.getModifiers() == Modifier.PUBLIC, m.getName() + " is public, and nothing else");
            got.add(told(m));
        }
        holds(got.equals(due), "the public methods are " + due + ", not " + got);
        for (Method m : ProofDay.class.getDeclaredMethods()) {
            boolean hidden = Modifier.isPrivate(m.getModifiers());
            holds(!hidden || !names.contains(m.getName()), "a private method bears the public name " + m.getName());
            holds(m.getParameterCount() <= 7, m.getName() + " takes at most seven parameters");
        }
    }

    private static String told(Method m) {
        StringBuilder text = new StringBuilder(m.getReturnType().getName()).append(' ').append(m.getName()).append('(');
        for (int i = 0; i < m.getParameterCount(); i++) {
            text.append(i == 0 ? "" : ",").append(m.getParameterTypes()[i].getName());
        }
        return text.append(')').toString();
    }

    private static void fields() throws Exception {
        int shown = 0;
        for (Field f : ProofDay.class.getDeclaredFields()) {
            int is = f.getModifiers();
            holds(!Modifier.isStatic(is) || Modifier.isFinal(is), f.getName() + " is static and final");
            if (!Modifier.isPrivate(is)) {
                shown++;
                boolean constant = Modifier.isPublic(is) && Modifier.isStatic(is) && f.getType() == int.class;
                holds(constant && Set.of("NONE", "BAD", "NOT", "FULL").contains(f.getName()), f.getName() + " shows");
            }
        }
        holds(shown == 4, "four constants show");
        holds(ProofDay.class.getDeclaredConstructors().length == 1, "one constructor");
        holds(Modifier.isPublic(ProofDay.class.getDeclaredConstructor().getModifiers()), "a public constructor");
    }

    private static void classes() {
        int is = ProofDay.class.getModifiers();
        holds(Modifier.isPublic(is) && Modifier.isFinal(is), "ProofDay is public and final");
        Class<?>[] inside = ProofDay.class.getDeclaredClasses();
        holds(inside.length < 12, "at most twelve classes");
        for (Class<?> c : inside) {
            boolean closed = !Modifier.isPublic(c.getModifiers()) && !Modifier.isProtected(c.getModifiers());
            holds(closed && Modifier.isStatic(c.getModifiers()), c.getName() + " is not public, and static");
            holds(c.getDeclaredFields().length <= 20, c.getName() + " has at most twenty fields");
        }
    }

    private static void source() throws Exception {
        // .ci/run starts the tests from the root of the project.
        String text = Files.readString(Path.of("src", "main", "java", "ProofDay.java"));
        String bare = text.replaceAll("(?s)/\\*.*?\\*/", " ").replaceAll("//[^\n]*", " ")
            .replaceAll("\"[^\"]*\"|'[^']*'", "0");
        Matcher words = Pattern.compile("(?<!\\w)(" + LEFT_OUT + ")(?!\\w)").matcher(bare);
        while (words.find()) {
            holds(false, "the source has " + words.group());
        }
        Matcher imports = Pattern.compile("import\\s+([^;]+);").matcher(bare);
        while (imports.find()) {
            holds(IMPORTS.contains(imports.group(1)), "imported is " + imports.group(1));
        }
        for (int i = 0; i < text.length(); i++) {
            holds(text.charAt(i) < 128, "sign " + i + " of the source is above 127");
        }
    }
}
