import java.lang.reflect.Constructor;
import java.lang.reflect.Field;
import java.lang.reflect.Method;
import java.lang.reflect.Modifier;
import java.util.Arrays;
import java.util.List;
import java.util.TreeSet;

/** The class has the document's face and no other, and keeps to those rules of LANGUAGE.md that can be seen here. */
public final class NotEndedFace {
    private static final String[] FACE = {
        "feed int int int int int : int", "end int : boolean", "fault int : int", "text int : int",
        "person int int int boolean : int", "know int int : boolean", "word int : int", "worth int int int : int",
        "run int long int int int : int", "all int long int int : int", "without int long int int : int",
        "did int long int : int", "lean int long int int : int", "note int int int int int : int",
        "fits long boolean : int", "books int long int : int", "odds int long int int : long", "lets int int : int",
        "bars int : int", "bolder int int : int", "say int int : boolean", "stayed int long int : int",
        "act int int int int : int", "help int long int int : int", "lookers int long : int", "count int : int"};

    private static int wrong = 0;

    public static void main(String[] args) throws Exception {
        Class<?> it = NotEnded.class;
        due(Modifier.isPublic(it.getModifiers()) && Modifier.isFinal(it.getModifiers()), "public and final");
        TreeSet<String> names = methods(it);
        constructors(it);
        fields(it);
        for (Class<?> inside : it.getDeclaredClasses()) {
            inside(inside, names);
        }
        due(it.getDeclaredClasses().length < 12, "some twelve classes at most");
        due(Arrays.asList(it.getDeclaredMethod("worth", int.class, int.class, int.class).getExceptionTypes())
                .equals(List.of(java.util.NoSuchElementException.class)), "worth tells what it throws");
        System.out.println(wrong == 0 ? "the face is as due" : wrong + " things of the face are not as due");
        if (wrong != 0) {
            System.exit(1);
        }
    }

    private static void due(boolean so, String what) {
        if (!so) {
            wrong++;
            System.out.println("not so: " + what);
        }
    }

    private static String signature(Method m) {
        StringBuilder text = new StringBuilder(m.getName());
        for (Class<?> type : m.getParameterTypes()) {
            text.append(' ').append(type.getName());
        }
        return text.append(" : ").append(m.getReturnType().getName()).toString();
    }

    private static TreeSet<String> methods(Class<?> it) {
        TreeSet<String> face = new TreeSet<>(Arrays.asList(FACE));
        TreeSet<String> found = new TreeSet<>();
        TreeSet<String> names = new TreeSet<>();
        for (Method m : it.getDeclaredMethods()) {
            if (Modifier.isPublic(m.getModifiers())) {
                found.add(signature(m));
                names.add(m.getName());
            }
        }
        due(found.equals(face), "the public methods are those of the document: " + found);
        for (Method m : it.getDeclaredMethods()) {
            boolean isPrivate = Modifier.isPrivate(m.getModifiers());
            due(isPrivate || Modifier.isPublic(m.getModifiers()), m.getName() + " is public or private");
            due(!isPrivate || !names.contains(m.getName()), m.getName() + " is no public one's name");
            due(m.getParameterCount() <= 7, m.getName() + " takes seven parameters at most");
        }
        return names;
    }

    private static void constructors(Class<?> it) {
        Constructor<?>[] all = it.getDeclaredConstructors();
        due(all.length == 1 && Modifier.isPublic(all[0].getModifiers()) && all[0].getParameterCount() == 0,
                "one public constructor without parameters");
    }

    private static void fields(Class<?> it) throws Exception {
        int own = 0;
        for (Field f : it.getDeclaredFields()) {
            boolean isStatic = Modifier.isStatic(f.getModifiers());
            boolean named = f.getName().equals("NONE") || f.getName().equals("HIDDEN");
            due(named == Modifier.isPublic(f.getModifiers()), f.getName() + " is public just if the document names it");
            due(named || Modifier.isPrivate(f.getModifiers()), f.getName() + " is private");
            due(!isStatic || Modifier.isFinal(f.getModifiers()), f.getName() + " is final");
            own += isStatic ? 0 : 1;
        }
        due(own <= 20, "some twenty fields at most");
        due(it.getField("NONE").getInt(null) == -1, "NONE is -1");
        due(it.getField("HIDDEN").getInt(null) == -1000, "HIDDEN is -1000");
    }

    private static void inside(Class<?> inside, TreeSet<String> names) {
        due(Modifier.isStatic(inside.getModifiers()), inside.getName() + " is static");
        due(!Modifier.isPublic(inside.getModifiers()) && !Modifier.isProtected(inside.getModifiers()),
                inside.getName() + " is private or package-visible");
        int own = 0;
        for (Field f : inside.getDeclaredFields()) {
            boolean isStatic = Modifier.isStatic(f.getModifiers());
            due(!isStatic || Modifier.isFinal(f.getModifiers()), f.getName() + " is final");
            own += isStatic ? 0 : 1;
        }
        due(own <= 20, inside.getName() + " has some twenty fields at most");
        for (Method m : inside.getDeclaredMethods()) {
            due(!names.contains(m.getName()), inside.getName() + "." + m.getName() + " is no public one's name");
        }
    }
}
