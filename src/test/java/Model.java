import java.util.ArrayList;
import java.util.HashSet;
import java.util.List;
import java.util.NoSuchElementException;
import java.util.Set;
import java.util.TreeSet;
import java.util.regex.Pattern;

/**
 * The document written down as plainly as the Java library allows, with other means than the class:
 * nothing is kept but the state, and each answer is worked out from the words of the description.
 */
final class Model {
    /** A graph that is never changed once it is in use; a change makes a copy. */
    private static final class Net {
        final List<List<String>> actions = new ArrayList<>();
        final List<List<Integer>> edges = new ArrayList<>();

        Net(int blocks) {
            for (int block = 0; block < blocks; block++) {
                actions.add(new ArrayList<>());
                edges.add(new ArrayList<>());
            }
        }

        Net(Net other) {
            for (int block = 0; block < other.size(); block++) {
                actions.add(new ArrayList<>(other.actions.get(block)));
                edges.add(new ArrayList<>(other.edges.get(block)));
            }
        }

        int size() {
            return actions.size();
        }

        Set<Integer> reachable() {
            return reachableWithout(-1);
        }

        Set<Integer> reachableWithout(int left) {
            Set<Integer> seen = new TreeSet<>();
            if (left != 0) {
                visit(0, left, seen);
            }
            return seen;
        }

        private void visit(int block, int left, Set<Integer> seen) {
            if (block != left && seen.add(block)) {
                for (int next : edges.get(block)) {
                    visit(next, left, seen);
                }
            }
        }

        Set<Integer> predecessors(int block) {
            Set<Integer> found = new TreeSet<>();
            for (int from : reachable()) {
                if (edges.get(from).contains(block)) {
                    found.add(from);
                }
            }
            return found;
        }

        boolean dominates(int first, int second) {
            return !reachableWithout(first).contains(second);
        }

        int parent(int block) {
            List<Integer> above = new ArrayList<>();
            for (int other : reachable()) {
                if (other != block && dominates(other, block)) {
                    above.add(other);
                }
            }
            for (int candidate : above) {
                boolean isLowest = true;
                for (int other : above) {
                    isLowest &= dominates(other, candidate);
                }
                if (isLowest) {
                    return candidate;
                }
            }
            throw new AssertionError("no parent");
        }

        Set<Integer> frontier(int block) {
            Set<Integer> found = new TreeSet<>();
            for (int other : reachable()) {
                boolean dominatesOne = false;
                for (int from : predecessors(other)) {
                    dominatesOne |= dominates(block, from);
                }
                if (dominatesOne && (!dominates(block, other) || other == block)) {
                    found.add(other);
                }
            }
            return found;
        }

        boolean live(int block, int variable, Set<Integer> tried) {
            for (String action : actions.get(block)) {
                if (action.equals("u" + variable)) {
                    return true;
                }
                if (action.equals("d" + variable)) {
                    return false;
                }
            }
            for (int next : edges.get(block)) {
                if (tried.add(next) && live(next, variable, tried)) {
                    return true;
                }
            }
            return false;
        }

        Set<Integer> minimal(int variable) {
            List<Integer> todo = new ArrayList<>();
            for (int block : reachable()) {
                if (block == 0 || actions.get(block).contains("d" + variable)) {
                    todo.add(block);
                }
            }
            Set<Integer> found = new TreeSet<>();
            while (!todo.isEmpty()) {
                for (int block : frontier(todo.remove(0))) {
                    if (found.add(block)) {
                        todo.add(block);
                    }
                }
            }
            return found;
        }

        Set<Integer> merges(int variable) {
            Set<Integer> found = minimal(variable);
            found.removeIf(block -> !live(block, variable, new HashSet<>()));
            return found;
        }

        int beginning(int block, int variable) {
            if (merges(variable).contains(block)) {
                return 1000 + block;
            }
            return block == 0 ? 2000 : end(parent(block), variable);
        }

        int end(int block, int variable) {
            int last = actions.get(block).lastIndexOf("d" + variable);
            return last >= 0 ? 10 * block + last : beginning(block, variable);
        }

        boolean isUse(int block, int action) {
            return actions.get(block).get(action).charAt(0) == 'u';
        }

        int variable(int block, int action) {
            return actions.get(block).get(action).charAt(1) - '0';
        }

        int use(int block, int action) {
            int variable = variable(block, action);
            int last = actions.get(block).subList(0, action).lastIndexOf("d" + variable);
            return last >= 0 ? 10 * block + last : beginning(block, variable);
        }

        /** Forward, round by round: what is known at each beginning, with 2000 for the initial value. */
        Set<Integer> reaching(int block, int variable) {
            List<Set<Integer>> at = new ArrayList<>();
            for (int each = 0; each < size(); each++) {
                at.add(new TreeSet<>());
            }
            at.get(0).add(2000);
            for (int round = 0; round < 2 * size(); round++) {
                for (int from : reachable()) {
                    int last = actions.get(from).lastIndexOf("d" + variable);
                    for (int to : edges.get(from)) {
                        at.get(to).addAll(last >= 0 ? Set.of(10 * from + last) : new TreeSet<>(at.get(from)));
                    }
                }
            }
            return at.get(block);
        }
    }

    private Net net = new Net(1);
    private Net saved = null;
    private final List<Net> before = new ArrayList<>();
    private final StringBuilder input = new StringBuilder();
    private int error = -1;
    private final List<Integer> visited = new ArrayList<>(List.of(0));

    private static int mask(Set<Integer> blocks) {
        int mask = 0;
        for (int block : blocks) {
            mask += 1 << block;
        }
        return mask;
    }

    private static void index(boolean isRight) {
        if (!isRight) {
            throw new IndexOutOfBoundsException();
        }
    }

    private static void argument(boolean isRight) {
        if (!isRight) {
            throw new IllegalArgumentException();
        }
    }

    private static void state(boolean isRight) {
        if (!isRight) {
            throw new IllegalStateException();
        }
    }

    private static void element(boolean isRight) {
        if (!isRight) {
            throw new NoSuchElementException();
        }
    }

    private boolean isBlock(int block) {
        return 0 <= block && block < net.size();
    }

    private static boolean isVariable(int variable) {
        return 0 <= variable && variable < 4;
    }

    private boolean isAction(int block, int action) {
        return isBlock(block) && 0 <= action && action < net.actions.get(block).size();
    }

    private void take(Net next) {
        net = next;
        visited.clear();
        visited.add(0);
    }

    private void change(Net next) {
        before.add(net);
        if (before.size() > 8) {
            before.remove(0);
        }
        take(next);
    }

    int reset(int blocks) {
        argument(1 <= blocks && blocks <= 14);
        int old = net.size();
        before.clear();
        take(new Net(blocks));
        return old;
    }

    int blockCount() {
        return net.size();
    }

    int append(char character) {
        argument(32 <= character && character <= 126);
        state(input.length() < 30);
        input.append(character);
        return input.length();
    }

    private boolean fits(String text, String pattern) {
        String last = String.valueOf((char) ('a' + net.size() - 1));
        String others = net.size() == 1 ? "[^\\x00-\\xff]" : "[b-" + last + "]";
        return Pattern.matches(pattern.replace("B", "[a-" + last + "]").replace("T", others), text)
                && text.substring(text.indexOf('>') + 1).chars().distinct().count()
                        >= (text.contains(">") ? text.length() - text.indexOf('>') - 1 : 0);
    }

    private boolean isLine(String text) {
        return fits(text, "B:([du][0-3]){0,6}(>T{1,3})?");
    }

    private boolean isStart(String text) {
        return fits(text, "|B|B:([du][0-3]){0,6}|B:([du][0-3]){0,5}[du]")
                || net.size() > 1 && fits(text, "B:([du][0-3]){0,6}>T{0,3}");
    }

    int define() {
        String text = input.toString();
        input.setLength(0);
        if (!isLine(text)) {
            error = 0;
            while (error < text.length() && isStart(text.substring(0, error + 1))) {
                error++;
            }
            throw new IllegalArgumentException();
        }
        int block = text.charAt(0) - 'a';
        Net next = new Net(net);
        next.actions.get(block).clear();
        next.edges.get(block).clear();
        String[] parts = text.substring(2).split(">");
        for (int at = 0; at < parts[0].length(); at += 2) {
            next.actions.get(block).add(parts[0].substring(at, at + 2));
        }
        for (int at = 0; parts.length > 1 && at < parts[1].length(); at++) {
            next.edges.get(block).add(parts[1].charAt(at) - 'a');
        }
        change(next);
        return block;
    }

    int errorPosition() {
        element(error >= 0);
        return error;
    }

    int removeAction(int block, int action) {
        index(isAction(block, action));
        Net next = new Net(net);
        next.actions.get(block).remove(action);
        change(next);
        return net.actions.get(block).size();
    }

    int addEdge(int from, int to) {
        index(isBlock(from) && isBlock(to));
        argument(to != 0 && !net.edges.get(from).contains(to));
        state(net.edges.get(from).size() < 3);
        Net next = new Net(net);
        next.edges.get(from).add(to);
        change(next);
        return net.edges.get(from).indexOf(to);
    }

    int removeEdge(int from, int to) {
        index(isBlock(from) && isBlock(to));
        element(net.edges.get(from).contains(to));
        Net next = new Net(net);
        next.edges.get(from).remove((Object) to);
        change(next);
        return net.edges.get(from).size();
    }

    int thread(int from, int through, int to) {
        index(isBlock(from) && isBlock(through) && isBlock(to));
        element(net.edges.get(from).contains(through) && net.edges.get(through).contains(to));
        state(net.size() < 14);
        Net next = new Net(net);
        next.actions.add(new ArrayList<>(net.actions.get(through)));
        next.edges.add(new ArrayList<>(List.of(to)));
        next.edges.get(from).replaceAll(target -> target == through ? net.size() : target);
        change(next);
        return net.size() - 1;
    }

    int actionCount(int block) {
        index(isBlock(block));
        return net.actions.get(block).size();
    }

    int action(int block, int action) {
        index(isAction(block, action));
        return net.variable(block, action) + (net.isUse(block, action) ? 10 : 0);
    }

    int edgeCount(int block) {
        index(isBlock(block));
        return net.edges.get(block).size();
    }

    int target(int block, int edge) {
        index(isBlock(block) && 0 <= edge && edge < net.edges.get(block).size());
        return net.edges.get(block).get(edge);
    }

    boolean isReachable(int block) {
        index(isBlock(block));
        return net.reachable().contains(block);
    }

    int predecessors(int block) {
        state(isReachable(block));
        return mask(net.predecessors(block));
    }

    boolean dominates(int first, int second) {
        index(isBlock(first) && isBlock(second));
        state(isReachable(first) && isReachable(second));
        return net.dominates(first, second);
    }

    int parent(int block) {
        state(isReachable(block));
        element(block != 0);
        return net.parent(block);
    }

    int frontier(int block) {
        state(isReachable(block));
        return mask(net.frontier(block));
    }

    private void place(int block, int variable) {
        index(isBlock(block) && isVariable(variable));
        state(isReachable(block));
    }

    boolean isLive(int block, int variable) {
        place(block, variable);
        return net.live(block, variable, new HashSet<>());
    }

    int minimalMerges(int variable) {
        index(isVariable(variable));
        return mask(net.minimal(variable));
    }

    int merges(int variable) {
        index(isVariable(variable));
        return mask(net.merges(variable));
    }

    int mergeCount() {
        return pairs(net).size();
    }

    int source(int block, int variable, boolean isEnd) {
        place(block, variable);
        return isEnd ? net.end(block, variable) : net.beginning(block, variable);
    }

    int sourceOfUse(int block, int action) {
        index(isAction(block, action));
        state(isReachable(block));
        element(net.isUse(block, action));
        return net.use(block, action);
    }

    int operand(int block, int variable, int predecessor) {
        place(block, variable);
        element(net.merges(variable).contains(block) && net.predecessors(block).contains(predecessor));
        return net.end(predecessor, variable);
    }

    int differentOperands(int block, int variable) {
        place(block, variable);
        element(net.merges(variable).contains(block));
        return operands(block, variable).size();
    }

    private Set<Integer> operands(int block, int variable) {
        Set<Integer> found = new TreeSet<>();
        for (int from : net.predecessors(block)) {
            found.add(net.end(from, variable));
        }
        return found;
    }

    int usesOf(int variable, int source) {
        index(isVariable(variable));
        int count = 0;
        for (int block : net.reachable()) {
            for (int action = 0; action < net.actions.get(block).size(); action++) {
                if (net.actions.get(block).get(action).equals("u" + variable) && net.use(block, action) == source) {
                    count++;
                }
            }
        }
        return count;
    }

    int unneeded() {
        int count = 0;
        List<Set<Integer>> merged = new ArrayList<>();
        for (int variable = 0; variable < 4; variable++) {
            merged.add(new TreeSet<>());
            for (int block : net.merges(variable)) {
                merged.get(variable).addAll(operands(block, variable));
            }
        }
        for (int block : net.reachable()) {
            for (int action = 0; action < net.actions.get(block).size(); action++) {
                int variable = net.variable(block, action);
                int number = 10 * block + action;
                if (!net.isUse(block, action) && !merged.get(variable).contains(number)
                        && usesOf(variable, number) == 0) {
                    count++;
                }
            }
        }
        return count;
    }

    private List<Integer> definitions(int block, int variable) {
        List<Integer> found = new ArrayList<>(net.reaching(block, variable));
        found.remove((Object) 2000);
        return found;
    }

    int reachingCount(int block, int variable) {
        place(block, variable);
        return definitions(block, variable).size();
    }

    int reaching(int block, int variable, int index) {
        place(block, variable);
        List<Integer> found = definitions(block, variable);
        element(0 <= index && index < found.size());
        return found.get(index);
    }

    boolean isInitialReaching(int block, int variable) {
        place(block, variable);
        return net.reaching(block, variable).contains(2000);
    }

    private Net old() {
        return before.isEmpty() ? net : before.get(before.size() - 1);
    }

    private static Set<Integer> pairs(Net net) {
        Set<Integer> found = new TreeSet<>();
        for (int variable = 0; variable < 4; variable++) {
            for (int block : net.merges(variable)) {
                found.add(100 * variable + block);
            }
        }
        return found;
    }

    int addedMerges() {
        Set<Integer> found = pairs(net);
        found.removeAll(pairs(old()));
        return found.size();
    }

    int removedMerges() {
        Set<Integer> found = pairs(old());
        found.removeAll(pairs(net));
        return found.size();
    }

    int changedUses() {
        int count = 0;
        Set<Integer> common = net.reachable();
        common.retainAll(old().reachable());
        for (int block : common) {
            List<String> then = old().actions.get(block);
            List<String> now = net.actions.get(block);
            for (int action = 0; action < Math.min(then.size(), now.size()); action++) {
                if (net.isUse(block, action) && then.get(action).equals(now.get(action))
                        && net.use(block, action) != old().use(block, action)) {
                    count++;
                }
            }
        }
        return count;
    }

    int newlyReachable() {
        Set<Integer> found = net.reachable();
        found.removeAll(old().reachable());
        return mask(found);
    }

    int undo() {
        element(!before.isEmpty());
        take(before.remove(before.size() - 1));
        return before.size();
    }

    int walk(int edge) {
        state(visited.size() <= 30);
        List<Integer> edges = net.edges.get(walkEnd());
        element(0 <= edge && edge < edges.size());
        visited.add(edges.get(edge));
        return walkEnd();
    }

    int clearWalk() {
        int choices = visited.size() - 1;
        take(net);
        return choices;
    }

    int walkEnd() {
        return visited.get(visited.size() - 1);
    }

    int lastOnWalk(int variable) {
        index(isVariable(variable));
        int last = 2000;
        for (int block : visited.subList(0, visited.size() - 1)) {
            int action = net.actions.get(block).lastIndexOf("d" + variable);
            last = action >= 0 ? 10 * block + action : last;
        }
        return last;
    }

    int mergesOnWalk(int variable) {
        index(isVariable(variable));
        Set<Integer> merges = net.merges(variable);
        int count = 0;
        for (int block : visited) {
            count += merges.contains(block) ? 1 : 0;
        }
        return count;
    }

    long walks(int block, int choices) {
        index(isBlock(block));
        argument(0 <= choices && choices <= 30);
        return walksBackwards(block, choices, new Long[14][31]);
    }

    private long walksBackwards(int block, int choices, Long[][] known) {
        if (choices == 0) {
            return block == 0 ? 1 : 0;
        }
        if (known[block][choices] == null) {
            long sum = 0;
            for (int from : net.predecessors(block)) {
                sum += walksBackwards(from, choices - 1, known);
            }
            known[block][choices] = sum;
        }
        return known[block][choices];
    }

    double mergeDensity() {
        return (double) mergeCount() / (double) (4 * net.reachable().size());
    }

    int save() {
        saved = net;
        return net.size();
    }

    int restore() {
        state(saved != null);
        before.clear();
        take(saved);
        return net.size();
    }
}
