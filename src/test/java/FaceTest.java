import java.lang.reflect.Constructor;
import java.lang.reflect.Field;
import java.lang.reflect.Method;
import java.lang.reflect.Modifier;
import java.util.Arrays;
import java.util.HashSet;
import java.util.Set;
import java.util.TreeSet;
import java.util.stream.Collectors;

/** The public face of the document: each of its members as it is written there, and no other. */
public final class FaceTest {

    private static final String A = "IllegalArgumentException";
    private static final String AB = A + ", IndexOutOfBoundsException";
    private static final String ABS = AB + ", IllegalStateException";
    private static final String AS = A + ", IllegalStateException";

    private static final String[] FACE = {
        "int put(int, int, int) " + ABS,
        "int set(int, int, int) " + AB,
        "int cut(int, int, int) " + AB,
        "int copy(int, int, int, int) " + ABS,
        "int length(int) " + A,
        "int at(int, int) " + AB,
        "long digest(int) " + A,
        "void setMarks(int, int, int) " + A,
        "int mark(int, int) " + AB,
        "int chunks(int) " + A,
        "int end(int, int) " + AB,
        "int store() ",
        "void setNight(int, int) " + A,
        "int bid(int, int) " + A,
        "void setChain(int, int, int) " + A,
        "int forBase(int) " + A,
        "int forDifference(int) " + AS,
        "int would(int) " + A,
        "int night() IllegalStateException",
        "int nights() ",
        "int got(int, int) " + AB,
        "int dayOf(int, int) " + AB,
        "int chain(int) " + A,
        "int bytes(int, int) " + ABS,
        "int held(int, int) " + ABS,
        "int lengthOf(int, int) " + ABS,
        "long digestOf(int, int) " + ABS,
        "long digestByChunks(int, int) " + ABS,
        "int restore(int, int) " + ABS,
        "void setSpeed(int, int) " + A,
        "int mounts(int, int) " + ABS,
        "float minutes(int, int) " + ABS,
        "int hourBits(int, int) " + ABS,
        "void promise(int, int, int) " + A,
        "int drill(int) " + AS,
        "int paid(int) " + A,
        "int owed(int) " + A,
        "int purse() ",
    };

    public static void main(String[] args) {
        Class<?> house = DeltaNights.class;
        Check.dueTrue("public and final", Modifier.isPublic(house.getModifiers())
                && Modifier.isFinal(house.getModifiers()) && house.getSuperclass() == Object.class
                && house.getInterfaces().length == 0);
        Constructor<?>[] constructors = house.getDeclaredConstructors();
        Check.due("constructors", constructors.length, 1);
        Check.dueTrue("a public one without arguments", constructors[0].getParameterCount() == 0
                && Modifier.isPublic(constructors[0].getModifiers()));
        for (Field field : house.getDeclaredFields()) {
            Check.dueTrue("private " + field, Modifier.isPrivate(field.getModifiers()));
        }
        looksAtMethods(house);
        looksAtClassesInside(house);
        Check.close("FaceTest");
    }

    private static void looksAtMethods(Class<?> house) {
        Set<String> face = new TreeSet<>(Arrays.asList(FACE));
        Set<String> names = new HashSet<>();
        for (Method method : house.getDeclaredMethods()) {
            if (Modifier.isPublic(method.getModifiers())) {
                Check.dueTrue("the document has " + told(method), face.remove(told(method)));
                names.add(method.getName());
            }
        }
        Check.dueTrue("the class has " + face, face.isEmpty());
        for (Method method : house.getDeclaredMethods()) {
            if (!Modifier.isPublic(method.getModifiers())) {
                Check.dueTrue("private " + method, Modifier.isPrivate(method.getModifiers()));
                Check.dueTrue("another name than " + method, !names.contains(method.getName()));
            }
        }
    }

    private static void looksAtClassesInside(Class<?> house) {
        Class<?>[] inside = house.getDeclaredClasses();
        Check.dueTrue("at most twelve classes", inside.length <= 12);
        Set<String> names = Arrays.stream(FACE).map(told -> told.replaceAll("^\\w+ |\\(.*", ""))
                .collect(Collectors.toSet());
        Check.due("names of the face", names.size(), FACE.length);
        for (Class<?> one : inside) {
            for (Method method : one.getDeclaredMethods()) {
                Check.dueTrue("another name than " + method, !names.contains(method.getName()));
            }
            Check.dueTrue("static " + one, Modifier.isStatic(one.getModifiers()));
            Check.dueTrue("not public " + one, !Modifier.isPublic(one.getModifiers())
                    && !Modifier.isProtected(one.getModifiers()));
            Check.dueTrue("at most twenty fields of " + one, one.getDeclaredFields().length <= 20);
        }
    }

    private static String told(Method method) {
        String arguments = Arrays.stream(method.getParameterTypes()).map(Class::getSimpleName)
                .collect(Collectors.joining(", "));
        String exceptions = Arrays.stream(method.getExceptionTypes()).map(Class::getSimpleName)
                .collect(Collectors.joining(", "));
        return method.getReturnType() + " " + method.getName() + "(" + arguments + ") " + exceptions;
    }
}
