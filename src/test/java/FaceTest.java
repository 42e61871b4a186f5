import java.lang.reflect.Constructor;
import java.lang.reflect.Field;
import java.lang.reflect.Method;
import java.lang.reflect.Modifier;
import java.util.Arrays;
import java.util.Set;
import java.util.TreeSet;
import java.util.stream.Collectors;

/** The public face is the document's, and no call throws what the document does not tell. */
public final class FaceTest {
    private static final String FACE = "accept(int)int ask()int book(int)int byteAt(int)int count(int)int die(int)int "
            + "dish(int,int)int drawn(int,int)int eat(int,int,int)int eaters()int end(int)boolean fault()int "
            + "feed(int,int,int,int,int)int heir(int)int hungriest()int image(int)boolean kin(int,int)int last(int)int "
            + "left(int)int line(int,int)int meals(int)int now(int)int odds(int,int,int)int order()int orderAt(int)int "
            + "person(int,int)int plate(int,int)int refuse(int)int restore(int)boolean rise(int)int said(int)int "
            + "seatAt(int)int seats()int sentence()int serve(int,int,int)int share(int,int,int)int surely()int table()int "
            + "told(int)int undo()int will(int)int";

    public static void main(String[] args) throws ReflectiveOperationException {
        Class<?> face = SecondHelpings.class;
        Check.due("public and final", face.getModifiers() & (Modifier.PUBLIC | Modifier.FINAL), Modifier.PUBLIC | Modifier.FINAL);
        Check.due("methods", publicMethods(face), FACE);
        Check.due("NONE", face.getField("NONE").getInt(null), -1);
        Check.due("constructor", face.getDeclaredConstructors().length, 1);
        Check.due("constructor", Modifier.isPublic(face.getDeclaredConstructor().getModifiers()), true);
        Check.due("person throws", face.getMethod("person", int.class, int.class).getExceptionTypes()[0].getName(),
                "java.util.NoSuchElementException");
        nothingElseIsSeen(face);
        inside(face);
        Check.finish("FaceTest");
    }

    private static String publicMethods(Class<?> face) {
        Set<String> found = new TreeSet<>();
        for (Method m : face.getDeclaredMethods()) {
            if (!Modifier.isPrivate(m.getModifiers())) {
                found.add(m.getName() + Arrays.stream(m.getParameterTypes()).map(Class::getName)
                        .collect(Collectors.joining(",", "(", ")")) + m.getReturnType().getName());
            }
        }
        return String.join(" ", found);
    }

    private static void nothingElseIsSeen(Class<?> face) {
        for (Field f : face.getDeclaredFields()) {
            Check.due("private " + f.getName(), Modifier.isPrivate(f.getModifiers()), !f.getName().equals("NONE"));
        }
        for (Class<?> c : face.getDeclaredClasses()) {
            Check.due("static " + c.getName(), Modifier.isStatic(c.getModifiers()), true);
            Check.due("public " + c.getName(), Modifier.isPublic(c.getModifiers()) || Modifier.isProtected(c.getModifiers()), false);
        }
    }

    private static void inside(Class<?> face) {
        Set<String> names = Arrays.stream(face.getDeclaredMethods()).filter(m -> Modifier.isPublic(m.getModifiers()))
                .map(Method::getName).collect(Collectors.toSet());
        Check.due("at most twelve classes", face.getDeclaredClasses().length <= 11, true);
        check(face, names);
        for (Class<?> c : face.getDeclaredClasses()) {
            check(c, names);
        }
    }

    private static void check(Class<?> c, Set<String> names) {
        int fields = 0;
        for (Field f : c.getDeclaredFields()) {
            boolean isStatic = Modifier.isStatic(f.getModifiers());
            Check.due("static is final: " + f, !isStatic || Modifier.isFinal(f.getModifiers()), true);
            fields += isStatic ? 0 : 1;
        }
        Check.due("fields of " + c, fields <= 20, true);
        for (Method m : c.getDeclaredMethods()) {
            boolean isPublic = Modifier.isPublic(m.getModifiers());
            Check.due("name of " + m, !isPublic && names.contains(m.getName()), false);
            Check.due("parameters of " + m, m.getParameterCount() <= 7, true);
        }
        for (Constructor<?> made : c.getDeclaredConstructors()) {
            Check.due("parameters of " + made, made.getParameterCount() <= 7, true);
        }
    }
}
