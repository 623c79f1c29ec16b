import java.lang.reflect.InvocationTargetException;
import java.lang.reflect.Method;
import java.lang.reflect.Modifier;
import java.util.ArrayList;
import java.util.Comparator;
import java.util.List;
import java.util.Random;

/** Long runs of calls, made of DeltaNights and of PlainHouse, and each must answer the same. */
public final class BesidePlainHouseTest {

    private static final int RUNS = 1500;
    private static final int CALLS = 512;

    private final Random random;
    private final DeltaNights house = new DeltaNights();
    private final PlainHouse plain = new PlainHouse();
    private final List<String> told = new ArrayList<>();
    private final int values;
    private final int wrongArguments;
    private final int nightly;

    private BesidePlainHouseTest(int seed) {
        random = new Random(seed);
        values = new int[] {1, 2, 3, 6, 256}[random.nextInt(5)];
        wrongArguments = new int[] {0, 2, 10, 40}[random.nextInt(4)];
        nightly = 5 + random.nextInt(25);
    }

    public static void main(String[] args) throws Exception {
        List<Method> face = face();
        for (int seed = 1; seed <= RUNS; seed++) {
            new BesidePlainHouseTest(seed).run(seed, face);
        }
        Check.close("BesidePlainHouseTest");
    }

    private static List<Method> face() {
        List<Method> face = new ArrayList<>();
        for (Method method : DeltaNights.class.getDeclaredMethods()) {
            if (Modifier.isPublic(method.getModifiers())) {
                face.add(method);
            }
        }
        face.sort(Comparator.comparing(Method::getName));
        Check.due("methods of the face", face.size(), 38);
        return face;
    }

    private void run(int seed, List<Method> face) throws Exception {
        for (int call = 0; call < CALLS; call++) {
            Method method = chosen(face);
            Object[] arguments = arguments(method);
            Object got = answer(house, method, arguments);
            Object want = answer(plain, method, arguments);
            told.add(method.getName() + java.util.Arrays.toString(arguments) + " = " + got);
            if (!got.equals(want)) {
                told.forEach(System.out::println);
                Check.dueTrue("run " + seed + ": " + want + " as the answer of call " + call, false);
                return;
            }
        }
        Check.dueTrue("run " + seed, true);
    }

    private Method chosen(List<Method> face) {
        int dice = random.nextInt(100);
        String often = dice < nightly ? "night" : dice < nightly + 12 ? "put"
                : dice < nightly + 18 ? "copy" : dice < nightly + 23 ? "bid"
                : dice < nightly + 28 ? "restore" : dice < nightly + 33 ? "setNight" : "";
        for (Method method : face) {
            if (method.getName().equals(often)) {
                return method;
            }
        }
        return face.get(random.nextInt(face.size()));
    }

    private static Object answer(Object object, Method method, Object[] arguments) throws Exception {
        Method own = object.getClass().getMethod(method.getName(), method.getParameterTypes());
        try {
            Object answer = own.invoke(object, arguments);
            return answer == null ? "nothing" : answer;
        } catch (InvocationTargetException e) {
            return "throws." + e.getCause().getClass().getSimpleName();
        }
    }

    private Object[] arguments(Method method) {
        Object[] arguments = good(method.getName());
        for (int i = 0; i < arguments.length; i++) {
            if (random.nextInt(100) < wrongArguments) {
                int[] odd = {-1, 4, 5, 48, 49, 60, 61, 101, 256, 501, 601, 25, 31, 51, 0, 1,
                    Integer.MIN_VALUE, Integer.MAX_VALUE};
                arguments[i] = odd[random.nextInt(odd.length)];
            }
        }
        return arguments;
    }

    private Object[] good(String name) {
        int client = random.nextInt(4);
        int length = plain.length(client);
        int place = random.nextInt(length + 1);
        int many = random.nextInt(length - place + 1);
        switch (name) {
            case "put": return new Object[] {client, place, random.nextInt(values)};
            case "set": return new Object[] {client, place, random.nextInt(values)};
            case "cut": return new Object[] {client, place, random.nextInt(Math.min(many, 6) + 1)};
            case "copy": return new Object[] {client, place, many, random.nextInt(4)};
            case "at": case "mark": return new Object[] {client, place};
            case "setMarks": return marks();
            case "end": return new Object[] {client, random.nextInt(plain.chunks(client) + 1)};
            case "setNight": return new Object[] {night(), random.nextInt(random.nextBoolean() ? 4 : 51)};
            case "bid": return new Object[] {client, random.nextInt(random.nextBoolean() ? 8 : 101)};
            case "setChain": return new Object[] {client, random.nextInt(8), random.nextInt(51)};
            case "setSpeed": return new Object[] {random.nextInt(31), 1 + random.nextInt(50)};
            case "promise": return new Object[] {client, random.nextInt(random.nextBoolean() ? 30 : 601),
                random.nextInt(101)};
            case "store": case "night": case "nights": case "purse": return new Object[0];
            case "length": case "digest": case "chunks": case "forBase": case "forDifference":
            case "would": case "chain": case "drill": case "paid": case "owed":
                return new Object[] {client};
            default: return new Object[] {client, random.nextInt(plain.nights() + 1)};
        }
    }

    private Object[] marks() {
        int least = 1 + random.nextInt(random.nextBoolean() ? 4 : 16);
        int most = least + random.nextInt(25 - least);
        return new Object[] {random.nextInt(9), least, most};
    }

    private int night() {
        return random.nextInt(random.nextBoolean() ? 60 : 501);
    }
}
