import java.lang.reflect.InvocationTargetException;
import java.lang.reflect.Method;
import java.util.ArrayList;
import java.util.Arrays;
import java.util.Comparator;
import java.util.List;
import java.util.Random;

/** Runs of calls on the class and on the model of the document; each answer and each exception must be the same. */
public final class ModelTests {
    private static final int RUNS = 700;
    private static final int CALLS = 512;
    private static final List<String> CHANGES =
            List.of("define", "removeAction", "addEdge", "removeEdge", "thread", "undo");
    private static final List<String> RARE = List.of("reset", "save", "restore");

    private final Random random;
    private final SsaRepair object = new SsaRepair();
    private final Model model = new Model();
    private final List<Method> questions = new ArrayList<>();
    private final List<String> log = new ArrayList<>();

    private ModelTests(long seed) {
        random = new Random(seed);
        for (Method method : methods()) {
            String name = method.getName();
            if (!CHANGES.contains(name) && !RARE.contains(name) && !name.equals("append")) {
                questions.add(method);
            }
        }
    }

    public static void main(String[] args) throws Exception {
        for (int run = 0; run < RUNS; run++) {
            new ModelTests(run).run();
        }
        Check.end("ModelTests");
    }

    private static List<Method> methods() {
        List<Method> found = new ArrayList<>(Arrays.asList(SsaRepair.class.getDeclaredMethods()));
        found.removeIf(method -> !java.lang.reflect.Modifier.isPublic(method.getModifiers()));
        found.sort(Comparator.comparing(Method::getName));
        return found;
    }

    private void run() throws Exception {
        if (random.nextInt(20) != 0) {
            call("reset", random.nextInt(10) == 0 ? random.nextInt(14) + 1 : random.nextInt(11) + 4);
        }
        for (int block = 0; block < model.blockCount(); block++) {
            typeLine(block);
        }
        while (log.size() < CALLS) {
            int kind = random.nextInt(100);
            if (kind < 12) {
                change();
            } else if (kind < 13) {
                rarely();
            } else if (kind < 14) {
                call("append", (char) (random.nextInt(4) == 0 ? random.nextInt(200) : 'a'));
            } else if (kind < 24) {
                call("walk", random.nextInt(8) == 0 ? random.nextInt(6) - 1 : random.nextInt(2));
            } else {
                call(questions.get(random.nextInt(questions.size())).getName());
            }
        }
    }

    /** A saved graph comes back soon, so that the run goes on with more than an empty graph. */
    private void rarely() throws Exception {
        if (random.nextInt(3) > 0) {
            call("save");
        }
        call(RARE.get(random.nextInt(3)));
        if (random.nextInt(4) > 0) {
            call("restore");
        }
    }

    private void change() throws Exception {
        int kind = random.nextInt(12);
        if (kind == 0) {
            typeLine(random.nextInt(model.blockCount()));
        } else if (kind < 5) {
            threadSome();
        } else {
            call(CHANGES.get(random.nextInt(CHANGES.size())));
        }
    }

    /** Threads along edges that there are, where it can. */
    private void threadSome() throws Exception {
        int from = random.nextInt(model.blockCount());
        int through = from;
        int to = from;
        if (model.edgeCount(from) > 0) {
            through = model.target(from, random.nextInt(model.edgeCount(from)));
        }
        if (model.edgeCount(through) > 0) {
            to = model.target(through, random.nextInt(model.edgeCount(through)));
        }
        call("thread", from, through, to);
    }

    /** Mostly a line, at times with a wrong, missing or further character. */
    private void typeLine(int block) throws Exception {
        StringBuilder text = new StringBuilder().append((char) ('a' + block)).append(':');
        int actions = random.nextInt(3) == 0 ? random.nextInt(7) : random.nextInt(3);
        for (int action = 0; action < actions; action++) {
            text.append(random.nextBoolean() ? 'd' : 'u').append(random.nextInt(random.nextInt(4) + 1));
        }
        List<Integer> targets = new ArrayList<>();
        for (int edge = random.nextInt(4); edge > 0 && model.blockCount() > 1; edge--) {
            int target = random.nextInt(model.blockCount() - 1) + 1;
            if (!targets.contains(target)) {
                targets.add(target);
            }
        }
        text.append(targets.isEmpty() ? "" : ">");
        targets.forEach(target -> text.append((char) ('a' + target)));
        if (random.nextInt(6) == 0) {
            spoil(text);
        }
        for (int at = 0; at < text.length(); at++) {
            call("append", text.charAt(at));
        }
        call("define");
    }

    private void spoil(StringBuilder text) {
        String signs = "abcno:>du01234 ;";
        char sign = signs.charAt(random.nextInt(signs.length()));
        int at = random.nextInt(text.length());
        switch (random.nextInt(4)) {
            case 0 -> text.setLength(at);
            case 1 -> text.setCharAt(at, sign);
            case 2 -> text.insert(at, sign);
            default -> text.append(sign);
        }
    }

    private void call(String name, Object... given) throws Exception {
        if (log.size() >= CALLS) {
            return;
        }
        Method asked = null;
        for (Method method : methods()) {
            asked = method.getName().equals(name) ? method : asked;
        }
        Object[] values = given.length > 0 ? given : arguments(asked);
        Method due = Model.class.getDeclaredMethod(name, asked.getParameterTypes());
        String call = name + Arrays.toString(values);
        log.add(call);
        String got = answer(asked, object, values);
        String wanted = answer(due, model, values);
        if (!got.equals(wanted)) {
            System.out.println(log);
        }
        Check.is("call " + log.size() + " " + call, got, wanted);
    }

    private static String answer(Method method, Object on, Object[] values) throws Exception {
        try {
            return String.valueOf(method.invoke(on, values));
        } catch (InvocationTargetException e) {
            return "throws." + e.getCause().getClass().getName();
        }
    }

    private Object[] arguments(Method method) {
        Class<?>[] types = method.getParameterTypes();
        Object[] values = new Object[types.length];
        for (int at = 0; at < types.length; at++) {
            values[at] = types[at] == boolean.class ? (Object) random.nextBoolean() : number(method.getName(), at);
        }
        return values;
    }

    private int number(String name, int at) {
        if (random.nextInt(25) == 0) {
            int[] wrong = {-1, 3, 4, 6, 14, 15, 30, 31, 32, 33, 64, Integer.MAX_VALUE, Integer.MIN_VALUE};
            return wrong[random.nextInt(wrong.length)];
        }
        boolean isVariable = at == 0 && List.of("minimalMerges", "merges", "usesOf", "lastOnWalk", "mergesOnWalk")
                .contains(name) || at == 1 && List.of("isLive", "source", "operand", "differentOperands",
                        "reachingCount", "reaching", "isInitialReaching").contains(name);
        if (isVariable) {
            return random.nextInt(random.nextInt(4) + 1);
        }
        if (name.equals("usesOf")) {
            int block = random.nextInt(model.blockCount());
            int[] sources = {2000, 1000 + block, 10 * block + random.nextInt(3), random.nextInt(60)};
            return sources[random.nextInt(sources.length)];
        }
        if (name.equals("walks") && at == 1) {
            return random.nextInt(31);
        }
        if (List.of("action", "removeAction", "sourceOfUse", "target").contains(name) && at == 1
                || name.equals("reaching") && at == 2) {
            return random.nextInt(4);
        }
        return random.nextInt(model.blockCount());
    }
}
