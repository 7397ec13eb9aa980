import java.lang.reflect.Constructor;
import java.lang.reflect.Field;
import java.lang.reflect.Method;
import java.lang.reflect.Modifier;
import java.util.Arrays;
import java.util.Comparator;
import java.util.Random;
import java.util.TreeSet;

/** The face as the document has it, and numbers far off in every call: none throws, none changes what it should not. */
public final class FaceTest {
    private static final String[] FACE = {"int count(int)", "int set(int,int)", "int feed(int,int,int,int,int,int)",
        "int text()", "int force(int)", "int asks(int,int,int,int)", "int envoy(int,int)", "int hope(int,int)",
        "int told(int,int)", "int winner(int)", "int next()", "int steps()", "int move(int,int)", "int moved(int,int)",
        "int broken(int,int)", "int may(int)", "int call(int,int)", "long worth(int,int,int)", "int best(int,int)",
        "int canForce(int,int,int)", "int reach(int,int)", "int loosest(int,int)", "int deals(int,int)",
        "int judge(int)", "int end(int,int)", "int kinds(int,int,int)", "int starts(int,int)", "int laws(int)",
        "int film(int,int)", "int drawn(int,int,int)", "long odds(int,int,int,int)", "int image()", "int back()",
        "int sheet(int,int,int)", "int cell(int,int,int)", "int copy(int,int,int,int,int)",
        "int envoysBy(int,int,int,int)", "int taken(int,int)"};
    private static final int[] NUMBERS = {Integer.MIN_VALUE, Integer.MIN_VALUE + 1, -100000, -1001, -100, -6, -5, -4,
        -3, -2, -1, 0, 0, 1, 1, 2, 2, 3, 4, 5, 6, 7, 9, 10, 18, 19, 20, 31, 32, 33, 38, 39, 40, 41, 50, 51, 59, 60, 61,
        64, 65, 99, 100, 101, 255, 256, 1800, 1801, 1900, 4050, 4051, 99999, 100000, 65536, Integer.MAX_VALUE - 1,
        Integer.MAX_VALUE};

    public static void main(String[] args) throws Exception {
        face();
        for (int run = 0; run < 400; run++) {
            extremes(new Random(run));
        }
        Check.finish();
    }

    private static void face() throws Exception {
        Class<?> c = Ambassadors.class;
        Check.due("public final", c.getModifiers(), Modifier.PUBLIC | Modifier.FINAL);
        TreeSet<String> open = new TreeSet<>();
        for (Method m : c.getDeclaredMethods()) {
            if (Modifier.isPublic(m.getModifiers())) {
                Check.due(m.getName() + " is public alone", m.getModifiers(), Modifier.PUBLIC);
                open.add(m.toString().replaceFirst("^public ", "").replace("Ambassadors.", ""));
            } else {
                Check.due(m.getName() + " is private", m.getModifiers() & Modifier.PRIVATE, Modifier.PRIVATE);
            }
        }
        Check.due("the methods: " + open, open.equals(new TreeSet<>(Arrays.asList(FACE))) ? 1 : 0, 1);
        Constructor<?>[] made = c.getDeclaredConstructors();
        Check.due("one constructor", made.length, 1);
        Check.due("without parameters", made[0].getParameterCount(), 0);
        int constants = 0;
        for (Field f : c.getDeclaredFields()) {
            constants += Modifier.isPublic(f.getModifiers()) ? 1 : 0;
            boolean shown = (f.getModifiers() & (Modifier.PUBLIC | Modifier.PRIVATE)) != 0;
            Check.due(f.getName() + " is public or private", shown ? 1 : 0, 1);
        }
        Check.due("constants", constants, 5);
        Check.due("NONE", Ambassadors.NONE, -1);
        Check.due("BAD", Ambassadors.BAD, -2);
        Check.due("STATE", Ambassadors.STATE, -3);
        Check.due("FULL", Ambassadors.FULL, -4);
        Check.due("NO", c.getField("NO").getLong(null), -4611686018427387904L);
    }

    private static void extremes(Random random) throws Exception {
        Method[] all = Ambassadors.class.getDeclaredMethods();
        Method[] methods = Arrays.stream(all).filter(m -> Modifier.isPublic(m.getModifiers()))
            .sorted(Comparator.comparing(Method::getName)).toArray(Method[]::new);
        Ambassadors x = new Ambassadors();
        Model model = new Model();
        int envoys = random.nextInt(6);
        for (int e = 0; e < envoys; e++) {
            int kind = random.nextInt(6);
            int more = random.nextInt(10);
            Check.due("envoy", x.envoy(kind, more), model.envoy(kind, more));
        }
        for (int k = 0; k < 500; k++) {
            Method m = methods[random.nextInt(methods.length)];
            Object[] with = new Object[m.getParameterCount()];
            for (int i = 0; i < with.length; i++) {
                with[i] = random.nextInt(20) == 0 ? random.nextInt() : NUMBERS[random.nextInt(NUMBERS.length)];
            }
            String call = m.getName() + Arrays.toString(with);
            long got = ((Number) m.invoke(x, with)).longValue();
            Check.due(call, got, asModel(model, m, with));
        }
    }

    private static long asModel(Model model, Method m, Object[] with) throws Exception {
        if (m.getName().equals("feed")) {
            int[] five = new int[5];
            for (int i = 0; i < 5; i++) {
                five[i] = (Integer) with[i + 1];
            }
            return model.feed((Integer) with[0], five);
        }
        Method same = Model.class.getDeclaredMethod(m.getName(), m.getParameterTypes());
        return ((Number) same.invoke(model, with)).longValue();
    }
}
