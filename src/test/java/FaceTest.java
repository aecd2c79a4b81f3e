import java.lang.reflect.Constructor;
import java.lang.reflect.Field;
import java.lang.reflect.Method;
import java.lang.reflect.Modifier;
import java.nio.file.Files;
import java.nio.file.Path;
import java.util.ArrayList;
import java.util.Arrays;
import java.util.List;
import java.util.NoSuchElementException;
import java.util.TreeSet;

/** The class's face is the document's and no more; the file keeps to those rules of LANGUAGE.md that a look can see. */
public final class FaceTest {
    private static final String FACE = "feed(int,int,int,int,int)int flight(int)int fault()int where()int sits(int)int "
            + "all()int likes(int,int)int loaded(int,int)int fitsIn(int)int start(int)boolean step()int finish()int "
            + "seconds(int)int left(int,int)int served(int,int)int trays(int,int)int got(int)int sum(int)int "
            + "heat(int,int)int cold(int,int)int mark()int back(int)boolean meets(int)int soonest()int lacking(int)int "
            + "fairest()int met()int out(int,int,int)long ways(int)long enough(int,int,int)int load(int,boolean)int "
            + "spare(int)int unloaded()int waits(int)int on(int,int)int clear(int)int room(int,int)int "
            + "fewest(int,int,int,int,int)int till(int,int)boolean sell(int,int)int given(int)int coins()int "
            + "change(int)int led(int)int size(int)int trouble()int";

    public static void main(String[] args) throws Exception {
        methods();
        others();
        inside();
        rules();
        Check.end("FaceTest");
    }

    private static void methods() throws Exception {
        TreeSet<String> want = new TreeSet<>(Arrays.asList(FACE.split(" ")));
        TreeSet<String> have = new TreeSet<>();
        TreeSet<String> names = new TreeSet<>();
        for (Method method : TwoTrolleys.class.getDeclaredMethods()) {
            if (Modifier.isPublic(method.getModifiers())) {
                have.add(signature(method));
                names.add(method.getName());
            }
        }
        Check.due("the public methods " + have, have.equals(want), true);
        for (Method method : TwoTrolleys.class.getDeclaredMethods()) {
            if (!Modifier.isPublic(method.getModifiers())) {
                Check.due(method.getName() + " is private", Modifier.isPrivate(method.getModifiers()), true);
                Check.due(method.getName() + " is no public name", names.contains(method.getName()), false);
            }
        }
        Class<?>[] thrown = TwoTrolleys.class.getMethod("led", int.class).getExceptionTypes();
        Check.due("led() tells what it throws", thrown.length == 1 && thrown[0] == NoSuchElementException.class, true);
    }

    private static String signature(Method method) {
        StringBuilder text = new StringBuilder(method.getName()).append('(');
        for (Class<?> type : method.getParameterTypes()) {
            text.append(text.charAt(text.length() - 1) == '(' ? "" : ",").append(type.getName());
        }
        return text.append(')').append(method.getReturnType().getName()).toString();
    }

    private static void others() {
        int modifiers = TwoTrolleys.class.getModifiers();
        Check.due("public and final", Modifier.isPublic(modifiers) && Modifier.isFinal(modifiers), true);
        for (Field field : TwoTrolleys.class.getDeclaredFields()) {
            boolean isNone = field.getName().equals("NONE");
            Check.due(field.getName(), Modifier.isPublic(field.getModifiers()), isNone);
            Check.due(field.getName() + " is hidden", isNone || Modifier.isPrivate(field.getModifiers()), true);
            Check.due(field.getName() + ", if static, is final",
                    !Modifier.isStatic(field.getModifiers()) || Modifier.isFinal(field.getModifiers()), true);
        }
        Constructor<?>[] made = TwoTrolleys.class.getDeclaredConstructors();
        Check.due("one constructor", made.length, 1);
        Check.due("without parameters", made[0].getParameterCount(), 0);
        Check.due("NONE", TwoTrolleys.NONE, -1);
        for (Class<?> inner : TwoTrolleys.class.getDeclaredClasses()) {
            Check.due(inner.getName() + " is static", Modifier.isStatic(inner.getModifiers()), true);
            Check.due(inner.getName() + " is not public", Modifier.isPublic(inner.getModifiers()), false);
        }
    }

    /** The classes inside, and the class itself, by rules 1, 3, 5, 6 and 11. */
    private static void inside() {
        TreeSet<String> face = new TreeSet<>();
        for (Method method : TwoTrolleys.class.getMethods()) {
            face.add(method.getName());
        }
        List<Class<?>> classes = new ArrayList<>(Arrays.asList(TwoTrolleys.class.getDeclaredClasses()));
        for (Class<?> inner : classes) {
            for (Method method : inner.getDeclaredMethods()) {
                Check.due(inner + "." + method.getName() + " is a public name", face.contains(method.getName()), false);
            }
            Check.due(inner + " holds further classes", inner.getDeclaredClasses().length, 0);
        }
        classes.add(TwoTrolleys.class);
        Check.due("some twelve classes", classes.size() <= 12, true);
        for (Class<?> one : classes) {
            int fields = 0;
            for (Field field : one.getDeclaredFields()) {
                boolean constant = Modifier.isStatic(field.getModifiers());
                Check.due(one + "." + field.getName() + ", if static, is final",
                        !constant || Modifier.isFinal(field.getModifiers()), true);
                fields += constant ? 0 : 1;
            }
            Check.due("some twenty fields in " + one, fields <= 20, true);
            for (Method method : one.getDeclaredMethods()) {
                Check.due("seven parameters of " + method, method.getParameterCount() <= 7, true);
                boolean throwsIt = method.getName().equals("led");
                Check.due("what " + method + " tells to throw", method.getExceptionTypes().length, throwsIt ? 1 : 0);
            }
        }
    }

    private static void rules() throws Exception {
        List<String> lines = Files.readAllLines(Path.of("src/main/java/TwoTrolleys.java"));
        String[] never = {"try {", "catch", "finally", "assert ", "synchronized", "->", "::", "Exact(", "double ",
            "float ", "package ", "Random", "System.nanoTime", "System.currentTimeMillis", "hashCode", "toString"};
        int methodLines = 0;
        for (String line : lines) {
            for (String word : never) {
                Check.due(word + " stands in " + line, line.contains(word), false);
            }
            Check.due("ASCII alone in " + line, line.chars().allMatch(c -> c >= 32 && c < 127), true);
            if (line.startsWith("import ")) {
                boolean listed = line.equals("import java.util.Arrays;") || line.equals("import java.util.NoSuchElementException;");
                Check.due(line, listed, true);
            }
            boolean ends = line.equals("    }") || line.equals("        }") || line.isEmpty();
            methodLines = ends ? 0 : methodLines + 1;
            boolean constants = line.contains("static final");
            Check.due("a method of more than sixty lines at " + line, methodLines > 60 && !constants, false);
        }
    }
}
