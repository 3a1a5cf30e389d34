import java.util.ArrayList;
import java.util.List;
import java.util.NoSuchElementException;
import java.util.function.Supplier;

/** What the project's tests share: comparing answers, expecting exceptions, and building graphs from lines. */
final class Check {
    interface Call {
        void run();
    }

    static final Class<?> INDEX = IndexOutOfBoundsException.class;
    static final Class<?> ARGUMENT = IllegalArgumentException.class;
    static final Class<?> STATE = IllegalStateException.class;
    static final Class<?> MISSING = NoSuchElementException.class;

    private static int checks = 0;
    private static String place = "";
    private static final List<String> faults = new ArrayList<>();

    private Check() {
    }

    /** Stands before what each following check says. */
    static void at(String words) {
        place = words;
    }

    static int count() {
        return checks;
    }

    static void is(String what, Object got, Object due) {
        checks++;
        if (!got.equals(due)) {
            faults.add(place + what + " answered " + got + ", due is " + due);
        }
    }

    static void fails(String what, Class<?> due, Call call) {
        is(what, answer(() -> {
            call.run();
            return "nothing";
        }), "throws." + due.getSimpleName());
    }

    /** The exact class counts: an exception of the machine is a subclass of one that the document names. */
    static String answer(Supplier<Object> call) {
        try {
            return String.valueOf(call.get());
        } catch (RuntimeException e) {
            return "throws." + e.getClass().getSimpleName();
        }
    }

    /** Numbers that are not 0 to count - 1: beside it, far away, and those that a shift takes for one of it. */
    static int[] outside(int count) {
        return new int[] {-1, count, count + 1, 31, 32, 33, 64, -31, -32, Integer.MAX_VALUE, Integer.MIN_VALUE};
    }

    /** Each line is given to define; the graph has the given number of blocks. */
    static SsaRepair graph(int blocks, String... lines) {
        SsaRepair x = new SsaRepair();
        x.reset(blocks);
        for (String line : lines) {
            define(x, line);
        }
        return x;
    }

    static int define(SsaRepair x, String line) {
        type(x, line);
        return x.define();
    }

    static void type(SsaRepair x, String text) {
        for (char character : text.toCharArray()) {
            x.append(character);
        }
    }

    /** The whole graph as text, to see that a call left it alone. */
    static String show(SsaRepair x) {
        StringBuilder text = new StringBuilder();
        int blocks = x.blockCount();
        for (int block = 0; block < blocks; block++) {
            text.append((char) ('a' + block)).append(':');
            int actions = x.actionCount(block);
            for (int action = 0; action < actions; action++) {
                int found = x.action(block, action);
                text.append(found < 10 ? 'd' : 'u').append(found % 10);
            }
            int edges = x.edgeCount(block);
            text.append(edges > 0 ? ">" : "");
            for (int edge = 0; edge < edges; edge++) {
                text.append((char) ('a' + x.target(block, edge)));
            }
            text.append(' ');
        }
        return text.toString().trim();
    }

    static int set(int... blocks) {
        int mask = 0;
        for (int block : blocks) {
            mask |= 1 << block;
        }
        return mask;
    }

    static void end(String name) {
        for (String fault : faults) {
            System.out.println(fault);
        }
        System.out.println(name + ": " + checks + " checks, " + faults.size() + " faults");
        if (!faults.isEmpty()) {
            System.exit(1);
        }
    }
}
