import java.lang.reflect.InvocationTargetException;
import java.lang.reflect.Method;
import java.lang.reflect.Modifier;
import java.util.ArrayList;
import java.util.List;
import java.util.Map;
import java.util.Random;
import java.util.TreeMap;

/**
 * Random runs of 512 calls, with right and wrong arguments, each answered by MeterNetwork and by
 * PlainNetwork. The seeds are fixed, so that each time the same runs are made.
 */
public final class ModelTest {
    private static final int RUNS = 1500;
    private static final int CALLS = 512;
    private static final int[] WILD = {-1, 0, 10, 11, 60, 100, 101, 1000, Integer.MIN_VALUE, Integer.MAX_VALUE};

    /** How often each method is called; the others, all of them queries, count 1. */
    private static final Map<String, Integer> WEIGHTS = Map.of("link", 10, "power", 3, "jump", 3, "setFaults", 4,
            "setPatience", 1, "take", 15, "run", 22, "appendText", 12, "runText", 4, "undo", 2);

    private static final Map<String, Method> REAL = methodsOf(MeterNetwork.class);
    private static final Map<String, Method> PLAIN = methodsOf(PlainNetwork.class);

    private final Random random;
    private final MeterNetwork real = new MeterNetwork();
    private final PlainNetwork plain = new PlainNetwork();
    private final List<String> told = new ArrayList<>();
    private final int nodes;
    private final int longest;
    private final int undos;

    private ModelTest(int seed) {
        random = new Random(seed);
        nodes = 3 + random.nextInt(8);
        longest = new int[] {3, 12, 40, 100}[random.nextInt(4)];
        undos = random.nextInt(8);
    }

    public static void main(String[] args) throws ReflectiveOperationException {
        Check.sentence("Promises 1 to 34, random runs");
        int wrong = 0;
        Map<String, Integer> seen = new TreeMap<>();
        for (int seed = 1; seed <= RUNS && wrong < 3; seed++) {
            ModelTest run = new ModelTest(seed);
            String complaint = run.complaint();
            wrong += complaint.isEmpty() ? 0 : 1;
            Check.same("run " + seed, complaint, "");
            run.countWhatHappened(seen);
        }
        System.out.println("what the runs came to at their ends: " + seen);
        for (String what : new String[] {"duplicates", "refused", "lost", "dropped", "wrong stamps", "sixty", "depth 9"}) {
            Check.same("the runs came to " + what, seen.getOrDefault(what, 0) > 0, true);
        }
        Check.finish();
    }

    private void countWhatHappened(Map<String, Integer> seen) {
        note(seen, "duplicates", real.count(2) > 0);
        note(seen, "refused", real.count(3) > 0);
        note(seen, "lost", real.count(4) > 0);
        note(seen, "dropped", real.count(5) > 0);
        note(seen, "wrong stamps", real.wrongStamps() > 0);
        note(seen, "sixty", real.count(0) == 60);
        for (int node = 1; node <= 9; node++) {
            note(seen, "depth 9", real.depth(node) == 9);
        }
    }

    private static void note(Map<String, Integer> seen, String what, boolean isSo) {
        if (isSo) {
            seen.merge(what, 1, Integer::sum);
        }
    }

    /** Nothing, or the first call whose answer is not that of the model, with those before it. */
    private String complaint() throws ReflectiveOperationException {
        List<Method> methods = weightedMethods();
        for (int call = 0; call < CALLS; call++) {
            String name;
            Object[] arguments;
            if (call < nodes * 2) {
                name = "link";
                int a = call % nodes;
                arguments = new Object[] {a, call < nodes ? (a + 1) % nodes : random.nextInt(10), a != nodes - 1};
            } else {
                Method method = methods.get(random.nextInt(methods.size()));
                if (method.getName().equals("undo") && random.nextInt(8) > undos) {
                    method = methods.get(random.nextInt(methods.size()));
                }
                name = method.getName();
                arguments = arguments(method);
            }
            if (name.equals("appendText") && random.nextInt(3) > 0) {
                String wrong = writeCommand();
                if (!wrong.isEmpty()) {
                    return wrong;
                }
                continue;
            }
            if (!isSame(name, arguments)) {
                return String.join("\n", told);
            }
        }
        return isSamePicture();
    }

    private boolean isSame(String name, Object... arguments) throws ReflectiveOperationException {
        String answer = answer(real, REAL, name, arguments);
        String due = answer(plain, PLAIN, name, arguments);
        StringBuilder line = new StringBuilder(name).append('(');
        for (Object argument : arguments) {
            line.append(line.charAt(line.length() - 1) == '(' ? "" : ", ").append(argument);
        }
        told.add(line.append(") = ").append(answer).append(answer.equals(due) ? "" : ", due is " + due).toString());
        return answer.equals(due);
    }

    private static String answer(Object network, Map<String, Method> methods, String name, Object... arguments)
            throws ReflectiveOperationException {
        try {
            return String.valueOf(methods.get(name).invoke(network, arguments));
        } catch (InvocationTargetException e) {
            return "throws " + e.getCause().getClass().getName();
        }
    }

    private static Map<String, Method> methodsOf(Class<?> type) {
        Map<String, Method> methods = new TreeMap<>();
        for (Method method : type.getDeclaredMethods()) {
            if (Modifier.isPublic(method.getModifiers())) {
                methods.put(method.getName(), method);
            }
        }
        return methods;
    }

    /** In the order of their names, so that the runs are the same each time. */
    private static List<Method> weightedMethods() {
        List<Method> methods = new ArrayList<>();
        for (Method method : REAL.values()) {
            for (int i = 0; i < WEIGHTS.getOrDefault(method.getName(), 1); i++) {
                methods.add(method);
            }
        }
        return methods;
    }

    private Object[] arguments(Method method) {
        Object[] arguments = new Object[method.getParameterCount()];
        for (int i = 0; i < arguments.length; i++) {
            boolean isFlag = method.getParameterTypes()[i] == boolean.class;
            arguments[i] = isFlag ? (Object) (random.nextInt(5) > 0) : (Object) number(method.getName(), i);
        }
        return arguments;
    }

    private int number(String name, int place) {
        if (random.nextInt(60) == 0) {
            return WILD[random.nextInt(WILD.length)];
        }
        switch (name) {
            case "link":
            case "power":
            case "isConnected":
            case "parent":
            case "depth":
            case "clock":
            case "hops":
                return random.nextInt(random.nextInt(8) == 0 ? 10 : nodes);
            case "run":
            case "ifRun":
                return 1 + random.nextInt(longest);
            case "setPatience":
                return 1 + random.nextInt(5);
            case "appendText":
                return 32 + random.nextInt(95);
            case "count":
                return random.nextInt(6);
            case "collectedReading":
                return place == 0 ? random.nextInt(12) : random.nextInt(5);
            default:
                return meterOrMore(name, place);
        }
    }

    private int meterOrMore(String name, int place) {
        if (place == 0) {
            return 1 + random.nextInt(random.nextInt(8) == 0 ? 9 : nodes - 1);
        }
        switch (name) {
            case "jump":
                return random.nextInt(201) - 100;
            case "setFaults":
                return random.nextInt(10);
            case "take":
                return random.nextInt(1000);
            case "storedReading":
                return random.nextInt(place == 1 ? 7 : 5);
            default:
                return random.nextInt(8);
        }
    }

    /** Writes a command, often behind others, sometimes with a wrong sign in it. */
    private String writeCommand() throws ReflectiveOperationException {
        if (random.nextInt(5) == 0 && !isSame("clearText")) {
            return String.join("\n", told);
        }
        StringBuilder s = new StringBuilder(real.textLength() > 0 ? ";" : "");
        int a = random.nextInt(nodes);
        int meter = 1 + random.nextInt(nodes - 1);
        switch (random.nextInt(8)) {
            case 0:
                s.append('+').append(a).append((a + 1 + random.nextInt(9)) % 10);
                break;
            case 1:
                s.append('-').append(a).append((a + 1 + random.nextInt(9)) % 10);
                break;
            case 2:
                s.append('!').append(a);
                break;
            case 3:
            case 4:
            case 5:
                s.append('t').append(meter).append(',').append(random.nextInt(1000));
                break;
            default:
                s.append('r').append(1 + random.nextInt(longest));
                break;
        }
        if (random.nextInt(40) == 0) {
            s.setCharAt(random.nextInt(s.length()), "+-!tr,;019".charAt(random.nextInt(10)));
        }
        for (int i = 0; i < s.length(); i++) {
            if (!isSame("appendText", (int) s.charAt(i))) {
                return String.join("\n", told);
            }
        }
        return "";
    }

    /** At the end all queries are asked, and the saved states one by one. */
    private String isSamePicture() throws ReflectiveOperationException {
        for (int state = 0; state < 8; state++) {
            boolean isSame = true;
            for (int node = 0; node < 10; node++) {
                for (String name : new String[] {"parent", "depth", "clock", "hops", "silence", "faults", "stored"}) {
                    isSame = isSame && isSame(name, node);
                }
                for (int i = 0; i < 10; i++) {
                    isSame = isSame && isSame("isConnected", node, i) && isSame("copies", node, i);
                    for (int part = 0; part < 5; part++) {
                        isSame = isSame && isSame("storedReading", node, i, part);
                        isSame = isSame && isSame("collectedReading", node * 10 + i, part);
                    }
                }
            }
            for (int what = 0; what < 6; what++) {
                isSame = isSame && isSame("count", what);
            }
            for (String name : new String[] {"missing", "wrongStamps", "slotsToCollect", "joined", "undo"}) {
                isSame = isSame && isSame(name);
            }
            if (!isSame) {
                return String.join("\n", told);
            }
        }
        return "";
    }
}
