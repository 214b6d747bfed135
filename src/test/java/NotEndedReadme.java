import java.lang.reflect.InvocationTargetException;
import java.lang.reflect.Method;
import java.nio.file.Files;
import java.nio.file.Path;
import java.util.Set;
import java.util.TreeSet;
import java.util.regex.Matcher;
import java.util.regex.Pattern;

/** Runs the calls of README.md on one object, in their order: each answers what stands behind it there. */
public final class NotEndedReadme {
    private static final Pattern CALL = Pattern.compile("it\\.(\\w+)\\((.*)\\); +// ([-\\w]+)(:.*)?");

    private static final NotEnded IT = new NotEnded();
    private static final Set<String> SHOWN = new TreeSet<>();
    private static int wrong = 0;

    public static void main(String[] args) throws Exception {
        for (String line : Files.readAllLines(Path.of("README.md"))) {
            Matcher call = CALL.matcher(line);
            if (call.matches()) {
                check(line, call.group(1), call.group(2).split(", "), call.group(3));
            } else {
                due(!line.startsWith("it."), line + " has no answer behind it");
            }
        }
        for (Method method : NotEnded.class.getDeclaredMethods()) {
            boolean face = java.lang.reflect.Modifier.isPublic(method.getModifiers());
            due(!face || SHOWN.contains(method.getName()), method.getName() + " is not shown");
        }
        System.out.println(wrong == 0 ? "the readme is right" : wrong + " things of the readme are wrong");
        if (wrong != 0) {
            System.exit(1);
        }
    }

    private static void due(boolean so, String what) {
        if (!so) {
            wrong++;
            System.out.println(what);
        }
    }

    private static void check(String line, String name, String[] given, String answer) throws Exception {
        SHOWN.add(name);
        for (Method method : NotEnded.class.getMethods()) {
            if (method.getName().equals(name)) {
                String got = answerOf(method, given);
                due(got.equals(meant(answer)), line + " but it answered " + got);
                return;
            }
        }
        due(false, line + " calls what is not there");
    }

    private static String meant(String answer) {
        return answer.equals("NONE") ? "-1" : answer.equals("HIDDEN") ? "-1000" : answer;
    }

    private static String answerOf(Method method, String[] given) throws Exception {
        Class<?>[] types = method.getParameterTypes();
        Object[] arguments = new Object[types.length];
        for (int i = 0; i < types.length; i++) {
            String text = given[i].replace("L", "");
            if (types[i] == boolean.class) {
                arguments[i] = Boolean.valueOf(text);
            } else if (types[i] == long.class) {
                arguments[i] = Long.decode(text);
            } else {
                arguments[i] = Integer.decode(text);
            }
        }
        try {
            return String.valueOf(method.invoke(IT, arguments));
        } catch (InvocationTargetException e) {
            return e.getCause().getClass().getSimpleName();
        }
    }
}
