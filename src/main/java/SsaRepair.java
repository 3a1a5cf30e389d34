import java.util.NoSuchElementException;

public final class SsaRepair {
    private static final int MAX_BLOCKS = 14;
    private static final int MAX_ACTIONS = 6;
    private static final int MAX_EDGES = 3;
    private static final int VARIABLES = 4;
    private static final int MAX_INPUT = 30;
    private static final int MAX_CHANGES = 8;
    private static final int MAX_CHOICES = 30;
    private static final int USE = 10;
    private static final int BLOCK_FACTOR = 10;
    private static final int FIRST_MERGE = 1000;
    private static final int INITIAL = 2000;
    private static final int NONE = -1;

    private final Flow flow = new Flow();
    private final Graph graph = flow.graph;
    private final Flow previousFlow = new Flow();
    private final Graph previous = previousFlow.graph;
    private final Graph saved = new Graph();
    private boolean isSaved = false;
    private final History history = new History();
    private final Line line = new Line();
    private int keptError = NONE;
    private final Walk path = new Walk();

    public SsaRepair() {
        flow.analyse();
    }

    // ---- the graph

    public int reset(int blocks) throws IllegalArgumentException {
        if (blocks < 1 || blocks > MAX_BLOCKS) {
            throw new IllegalArgumentException("the number of blocks is not 1 to 14");
        }
        int replaced = graph.blocks;
        graph.makeEmpty(blocks);
        history.forgetAll();
        followGraph();
        return replaced;
    }

    public int blockCount() {
        return graph.blocks;
    }

    public int append(char character) throws IllegalArgumentException, IllegalStateException {
        if (character < 32 || character > 126) {
            throw new IllegalArgumentException("the character's code is not 32 to 126");
        }
        if (line.length >= MAX_INPUT) {
            throw new IllegalStateException("the input is full");
        }
        line.put(character);
        return line.length;
    }

    public int define() throws IllegalArgumentException {
        int error = line.read(graph.blocks);
        line.length = 0;
        if (error != NONE) {
            keptError = error;
            throw new IllegalArgumentException("the input is not a line");
        }
        history.remember(graph);
        graph.replaceBlock(line);
        followGraph();
        return line.block;
    }

    public int errorPosition() throws NoSuchElementException {
        if (keptError == NONE) {
            throw new NoSuchElementException("no error position was kept");
        }
        return keptError;
    }

    public int removeAction(int block, int action) throws IndexOutOfBoundsException {
        requireAction(block, action);
        history.remember(graph);
        graph.dropAction(block, action);
        followGraph();
        return graph.actionCounts[block];
    }

    public int addEdge(int from, int to)
            throws IndexOutOfBoundsException, IllegalArgumentException, IllegalStateException {
        requireBlock(from);
        requireBlock(to);
        if (to == 0 || graph.edgeBetween(from, to) != NONE) {
            throw new IllegalArgumentException("the target is block 0, or the edge exists");
        }
        if (graph.edgeCounts[from] >= MAX_EDGES) {
            throw new IllegalStateException("the source has 3 edges");
        }
        history.remember(graph);
        graph.putEdge(from, to);
        followGraph();
        return graph.edgeCounts[from] - 1;
    }

    public int removeEdge(int from, int to) throws IndexOutOfBoundsException, NoSuchElementException {
        requireBlock(from);
        requireBlock(to);
        int edge = graph.edgeBetween(from, to);
        if (edge == NONE) {
            throw new NoSuchElementException("no such edge");
        }
        history.remember(graph);
        graph.dropEdge(from, edge);
        followGraph();
        return graph.edgeCounts[from];
    }

    public int thread(int from, int through, int to)
            throws IndexOutOfBoundsException, NoSuchElementException, IllegalStateException {
        requireBlock(from);
        requireBlock(through);
        requireBlock(to);
        int edge = graph.edgeBetween(from, through);
        if (edge == NONE || graph.edgeBetween(through, to) == NONE) {
            throw new NoSuchElementException("no edge to the block, or none behind it");
        }
        if (graph.blocks >= MAX_BLOCKS) {
            throw new IllegalStateException("there are 14 blocks");
        }
        history.remember(graph);
        int copy = graph.addCopy(through, to);
        graph.redirect(from, edge, copy);
        followGraph();
        return copy;
    }

    public int actionCount(int block) throws IndexOutOfBoundsException {
        requireBlock(block);
        return graph.actionCounts[block];
    }

    public int action(int block, int action) throws IndexOutOfBoundsException {
        requireAction(block, action);
        return graph.actionAt(block, action);
    }

    public int edgeCount(int block) throws IndexOutOfBoundsException {
        requireBlock(block);
        return graph.edgeCounts[block];
    }

    public int target(int block, int edge) throws IndexOutOfBoundsException {
        if (!graph.hasEdge(block, edge)) {
            throw new IndexOutOfBoundsException("no such block or edge");
        }
        return graph.targetAt(block, edge);
    }

    // ---- dominators

    public boolean isReachable(int block) throws IndexOutOfBoundsException {
        requireBlock(block);
        return has(flow.reachable, block);
    }

    public int predecessors(int block) throws IndexOutOfBoundsException, IllegalStateException {
        requireReachable(block);
        return flow.sourcesOfEdges[block];
    }

    public boolean dominates(int first, int second) throws IndexOutOfBoundsException, IllegalStateException {
        requireBlock(first);
        requireBlock(second);
        requireReachable(first);
        requireReachable(second);
        return has(flow.dominated[first], second);
    }

    public int parent(int block) throws IndexOutOfBoundsException, IllegalStateException, NoSuchElementException {
        requireReachable(block);
        if (block == 0) {
            throw new NoSuchElementException("block 0 has no parent");
        }
        return flow.parents[block];
    }

    public int frontier(int block) throws IndexOutOfBoundsException, IllegalStateException {
        requireReachable(block);
        return flow.frontiers[block];
    }

    // ---- merges and sources

    public boolean isLive(int block, int variable) throws IndexOutOfBoundsException, IllegalStateException {
        requireVariable(variable);
        requireReachable(block);
        return has(flow.live[variable], block);
    }

    public int minimalMerges(int variable) throws IndexOutOfBoundsException {
        requireVariable(variable);
        return flow.minimal[variable];
    }

    public int merges(int variable) throws IndexOutOfBoundsException {
        requireVariable(variable);
        return flow.pruned[variable];
    }

    public int mergeCount() {
        return flow.countMerges();
    }

    public int source(int block, int variable, boolean isEnd)
            throws IndexOutOfBoundsException, IllegalStateException {
        requireVariable(variable);
        requireReachable(block);
        return isEnd ? flow.sourceAtEnd(block, variable) : flow.sourceAtBeginning(block, variable);
    }

    public int sourceOfUse(int block, int action)
            throws IndexOutOfBoundsException, IllegalStateException, NoSuchElementException {
        requireAction(block, action);
        requireReachable(block);
        if (!isUse(graph.actionAt(block, action))) {
            throw new NoSuchElementException("the action is not a use");
        }
        return flow.sourceAtUse(block, action);
    }

    public int operand(int block, int variable, int predecessor)
            throws IndexOutOfBoundsException, IllegalStateException, NoSuchElementException {
        requireMerge(block, variable);
        if (!graph.hasBlock(predecessor) || !has(flow.sourcesOfEdges[block], predecessor)) {
            throw new NoSuchElementException("no such predecessor");
        }
        return flow.sourceAtEnd(predecessor, variable);
    }

    public int differentOperands(int block, int variable)
            throws IndexOutOfBoundsException, IllegalStateException, NoSuchElementException {
        requireMerge(block, variable);
        return flow.countOperands(block, variable);
    }

    public int usesOf(int variable, int source) throws IndexOutOfBoundsException {
        requireVariable(variable);
        return flow.countUses(variable, source);
    }

    public int unneeded() {
        return flow.countUnneeded();
    }

    // ---- reaching definitions

    public int reachingCount(int block, int variable) throws IndexOutOfBoundsException, IllegalStateException {
        requireVariable(variable);
        requireReachable(block);
        return Integer.bitCount(flow.reachingBlocks(block, variable));
    }

    public int reaching(int block, int variable, int index)
            throws IndexOutOfBoundsException, IllegalStateException, NoSuchElementException {
        requireVariable(variable);
        requireReachable(block);
        int definer = memberAt(flow.reachingBlocks(block, variable), index);
        if (definer == NONE) {
            throw new NoSuchElementException("no such reaching definition");
        }
        return flow.sourceAtEnd(definer, variable);
    }

    public boolean isInitialReaching(int block, int variable)
            throws IndexOutOfBoundsException, IllegalStateException {
        requireVariable(variable);
        requireReachable(block);
        return has(flow.openBefore(block, variable), 0);
    }

    // ---- reports of changes

    public int addedMerges() {
        return readPrevious() ? mergesMissing(flow, previousFlow) : 0;
    }

    public int removedMerges() {
        return readPrevious() ? mergesMissing(previousFlow, flow) : 0;
    }

    public int changedUses() {
        if (!readPrevious()) {
            return 0;
        }
        int both = flow.reachable & previousFlow.reachable;
        int count = 0;
        for (int block = 0; block < MAX_BLOCKS; block++) {
            if (has(both, block)) {
                count += changedUsesIn(block);
            }
        }
        return count;
    }

    public int newlyReachable() {
        return readPrevious() ? flow.reachable & ~previousFlow.reachable : 0;
    }

    public int undo() throws NoSuchElementException {
        if (history.count == 0) {
            throw new NoSuchElementException("no change is remembered");
        }
        history.takeBack(graph);
        followGraph();
        return history.count;
    }

    // ---- walks

    public int walk(int edge) throws IllegalStateException, NoSuchElementException {
        if (path.choices >= MAX_CHOICES) {
            throw new IllegalStateException("the walk has 30 choices");
        }
        if (!graph.hasEdge(path.end(), edge)) {
            throw new NoSuchElementException("no such edge where the walk has come to");
        }
        path.goTo(graph.targetAt(path.end(), edge));
        return path.end();
    }

    public int clearWalk() {
        int choices = path.choices;
        path.choices = 0;
        return choices;
    }

    public int walkEnd() {
        return path.end();
    }

    public int lastOnWalk(int variable) throws IndexOutOfBoundsException {
        requireVariable(variable);
        for (int step = path.choices - 1; step >= 0; step--) {
            int definition = flow.lastDefinition(path.blocks[step], variable);
            if (definition != NONE) {
                return definition;
            }
        }
        return INITIAL;
    }

    public int mergesOnWalk(int variable) throws IndexOutOfBoundsException {
        requireVariable(variable);
        int count = 0;
        for (int step = 0; step <= path.choices; step++) {
            if (has(flow.pruned[variable], path.blocks[step])) {
                count++;
            }
        }
        return count;
    }

    public long walks(int block, int choices) throws IndexOutOfBoundsException, IllegalArgumentException {
        requireBlock(block);
        if (choices < 0 || choices > MAX_CHOICES) {
            throw new IllegalArgumentException("the number of choices is not 0 to 30");
        }
        path.countWalks(graph, choices);
        return path.counts[block];
    }

    public double mergeDensity() {
        // Block 0 is always reachable; the least divisor 1 only says so where it divides.
        int reachableBlocks = Math.max(1, Integer.bitCount(flow.reachable));
        return (double) flow.countMerges() / (double) (VARIABLES * reachableBlocks);
    }

    // ---- saving

    public int save() {
        saved.become(graph);
        isSaved = true;
        return graph.blocks;
    }

    public int restore() throws IllegalStateException {
        if (!isSaved) {
            throw new IllegalStateException("nothing was saved");
        }
        graph.become(saved);
        history.forgetAll();
        followGraph();
        return graph.blocks;
    }

    // ---- helpers

    private void followGraph() {
        path.choices = 0;
        flow.analyse();
    }

    private void requireBlock(int block) {
        if (!graph.hasBlock(block)) {
            throw new IndexOutOfBoundsException("no such block");
        }
    }

    private void requireAction(int block, int action) {
        if (!graph.hasAction(block, action)) {
            throw new IndexOutOfBoundsException("no such block or action");
        }
    }

    private void requireVariable(int variable) {
        if (variable < 0 || variable >= VARIABLES) {
            throw new IndexOutOfBoundsException("no such variable");
        }
    }

    private void requireReachable(int block) {
        requireBlock(block);
        if (!has(flow.reachable, block)) {
            throw new IllegalStateException("the block is not reachable");
        }
    }

    private void requireMerge(int block, int variable) {
        requireVariable(variable);
        requireReachable(block);
        if (!has(flow.pruned[variable], block)) {
            throw new NoSuchElementException("the block is not a merge of the variable");
        }
    }

    private boolean readPrevious() {
        if (history.count == 0) {
            return false;
        }
        history.copyLatest(previous);
        previousFlow.analyse();
        return true;
    }

    private int changedUsesIn(int block) {
        int common = Math.min(graph.actionCounts[block], previous.actionCounts[block]);
        int count = 0;
        for (int action = 0; action < common; action++) {
            int now = graph.actionAt(block, action);
            if (isUse(now) && now == previous.actionAt(block, action)
                    && flow.sourceAtUse(block, action) != previousFlow.sourceAtUse(block, action)) {
                count++;
            }
        }
        return count;
    }

    private static int mergesMissing(Flow one, Flow other) {
        int count = 0;
        for (int variable = 0; variable < VARIABLES; variable++) {
            count += Integer.bitCount(one.pruned[variable] & ~other.pruned[variable]);
        }
        return count;
    }

    private static boolean has(int set, int block) {
        return (set >> block & 1) != 0;
    }

    private static int memberAt(int set, int index) {
        int left = index;
        for (int block = 0; block < MAX_BLOCKS; block++) {
            if (has(set, block)) {
                if (left == 0) {
                    return block;
                }
                left--;
            }
        }
        return NONE;
    }

    private static boolean isUse(int action) {
        return action >= USE;
    }

    private static final class Graph {
        int blocks = 1;
        final int[] actionCounts = new int[MAX_BLOCKS];
        final int[] edgeCounts = new int[MAX_BLOCKS];
        private final int[] actions = new int[MAX_BLOCKS * MAX_ACTIONS];
        private final int[] targets = new int[MAX_BLOCKS * MAX_EDGES];

        void makeEmpty(int newBlocks) {
            blocks = newBlocks;
            for (int block = 0; block < MAX_BLOCKS; block++) {
                emptyBlock(block);
            }
        }

        void become(Graph other) {
            blocks = other.blocks;
            System.arraycopy(other.actionCounts, 0, actionCounts, 0, MAX_BLOCKS);
            System.arraycopy(other.edgeCounts, 0, edgeCounts, 0, MAX_BLOCKS);
            System.arraycopy(other.actions, 0, actions, 0, MAX_BLOCKS * MAX_ACTIONS);
            System.arraycopy(other.targets, 0, targets, 0, MAX_BLOCKS * MAX_EDGES);
        }

        boolean hasBlock(int block) {
            return block >= 0 && block < blocks;
        }

        boolean hasAction(int block, int action) {
            return hasBlock(block) && action >= 0 && action < actionCounts[block];
        }

        boolean hasEdge(int block, int edge) {
            return hasBlock(block) && edge >= 0 && edge < edgeCounts[block];
        }

        int actionAt(int block, int action) {
            return actions[block * MAX_ACTIONS + action];
        }

        int targetAt(int block, int edge) {
            return targets[block * MAX_EDGES + edge];
        }

        int edgeBetween(int from, int to) {
            for (int edge = 0; edge < edgeCounts[from]; edge++) {
                if (targetAt(from, edge) == to) {
                    return edge;
                }
            }
            return NONE;
        }

        int targetSet(int block) {
            int set = 0;
            for (int edge = 0; edge < edgeCounts[block]; edge++) {
                set |= 1 << targetAt(block, edge);
            }
            return set;
        }

        void emptyBlock(int block) {
            actionCounts[block] = 0;
            edgeCounts[block] = 0;
        }

        void putAction(int block, int action) {
            if (actionCounts[block] < MAX_ACTIONS) {
                actions[block * MAX_ACTIONS + actionCounts[block]] = action;
                actionCounts[block]++;
            }
        }

        void putEdge(int from, int to) {
            if (edgeCounts[from] < MAX_EDGES) {
                targets[from * MAX_EDGES + edgeCounts[from]] = to;
                edgeCounts[from]++;
            }
        }

        void redirect(int from, int edge, int to) {
            targets[from * MAX_EDGES + edge] = to;
        }

        void dropAction(int block, int action) {
            int last = actionCounts[block] - 1;
            for (int place = action; place < last; place++) {
                actions[block * MAX_ACTIONS + place] = actionAt(block, place + 1);
            }
            actionCounts[block] = last;
        }

        void dropEdge(int from, int edge) {
            int last = edgeCounts[from] - 1;
            for (int place = edge; place < last; place++) {
                targets[from * MAX_EDGES + place] = targetAt(from, place + 1);
            }
            edgeCounts[from] = last;
        }

        void replaceBlock(Line line) {
            emptyBlock(line.block);
            for (int action = 0; action < line.actionCount; action++) {
                putAction(line.block, line.actions[action]);
            }
            for (int edge = 0; edge < line.targetCount; edge++) {
                putEdge(line.block, line.targets[edge]);
            }
        }

        int addCopy(int model, int to) {
            int copy = blocks;
            blocks++;
            emptyBlock(copy);
            for (int action = 0; action < actionCounts[model]; action++) {
                putAction(copy, actionAt(model, action));
            }
            putEdge(copy, to);
            return copy;
        }

        int definitionBefore(int block, int variable, int end) {
            for (int action = end - 1; action >= 0; action--) {
                if (actionAt(block, action) == variable) {
                    return BLOCK_FACTOR * block + action;
                }
            }
            return NONE;
        }

        boolean usesFirst(int block, int variable) {
            for (int action = 0; action < actionCounts[block]; action++) {
                int found = actionAt(block, action);
                if (found == variable) {
                    return false;
                }
                if (found == USE + variable) {
                    return true;
                }
            }
            return false;
        }
    }

    private static final class Flow {
        final Graph graph = new Graph();
        int reachable = 0;
        private final int[] successors = new int[MAX_BLOCKS];
        final int[] sourcesOfEdges = new int[MAX_BLOCKS];
        final int[] dominated = new int[MAX_BLOCKS];
        final int[] parents = new int[MAX_BLOCKS];
        final int[] frontiers = new int[MAX_BLOCKS];
        private final int[] defining = new int[VARIABLES];
        private final int[] lastDefinitions = new int[VARIABLES * MAX_BLOCKS];
        final int[] live = new int[VARIABLES];
        final int[] minimal = new int[VARIABLES];
        final int[] pruned = new int[VARIABLES];
        private final int[] needed = new int[MAX_BLOCKS];

        void analyse() {
            findReachable();
            findDominators();
            for (int variable = 0; variable < VARIABLES; variable++) {
                defining[variable] = findDefining(variable);
                live[variable] = findLive(variable);
                minimal[variable] = findMinimal(variable);
                pruned[variable] = minimal[variable] & live[variable];
            }
        }

        private void findReachable() {
            for (int block = 0; block < MAX_BLOCKS; block++) {
                successors[block] = graph.hasBlock(block) ? graph.targetSet(block) : 0;
            }
            reachable = reachedWithout(0);
            for (int block = 0; block < MAX_BLOCKS; block++) {
                sourcesOfEdges[block] = findSourcesOfEdges(block);
            }
        }

        private int reachedWithout(int leftOut) {
            int reached = 1 & ~leftOut;
            for (int round = 0; round < MAX_BLOCKS; round++) {
                int before = reached;
                for (int block = 0; block < MAX_BLOCKS; block++) {
                    if (has(reached, block)) {
                        reached |= successors[block] & ~leftOut;
                    }
                }
                if (reached == before) {
                    break;
                }
            }
            return reached;
        }

        private int findSourcesOfEdges(int block) {
            int set = 0;
            for (int from = 0; from < MAX_BLOCKS; from++) {
                if (has(reachable, from) && has(successors[from], block)) {
                    set |= 1 << from;
                }
            }
            return set;
        }

        private void findDominators() {
            for (int block = 0; block < MAX_BLOCKS; block++) {
                dominated[block] = has(reachable, block) ? reachable & ~reachedWithout(1 << block) : 0;
            }
            for (int block = 0; block < MAX_BLOCKS; block++) {
                parents[block] = findParent(block);
                frontiers[block] = findFrontier(block);
            }
        }

        private int findParent(int block) {
            int lowest = 0;
            for (int other = 1; other < MAX_BLOCKS; other++) {
                // The dominators of a block form a chain, so each one found is above or below the lowest so far.
                if (other != block && has(dominated[other], block) && has(dominated[lowest], other)) {
                    lowest = other;
                }
            }
            return lowest;
        }

        private int findFrontier(int block) {
            int set = 0;
            for (int other = 0; other < MAX_BLOCKS; other++) {
                boolean isBehind = (sourcesOfEdges[other] & dominated[block]) != 0;
                if (isBehind && (other == block || !has(dominated[block], other))) {
                    set |= 1 << other;
                }
            }
            return set;
        }

        private int findDefining(int variable) {
            int set = 0;
            for (int block = 0; block < MAX_BLOCKS; block++) {
                int definition = has(reachable, block)
                        ? graph.definitionBefore(block, variable, graph.actionCounts[block]) : NONE;
                lastDefinitions[variable * MAX_BLOCKS + block] = definition;
                if (definition != NONE) {
                    set |= 1 << block;
                }
            }
            return set;
        }

        private int findLive(int variable) {
            int set = 0;
            for (int round = 0; round <= MAX_BLOCKS; round++) {
                int before = set;
                for (int block = MAX_BLOCKS - 1; block >= 0; block--) {
                    if (has(reachable, block) && isLiveGiven(set, block, variable)) {
                        set |= 1 << block;
                    }
                }
                if (set == before) {
                    break;
                }
            }
            return set;
        }

        private boolean isLiveGiven(int liveBlocks, int block, int variable) {
            boolean isOpen = !has(defining[variable], block);
            return graph.usesFirst(block, variable) || isOpen && (successors[block] & liveBlocks) != 0;
        }

        private int findMinimal(int variable) {
            // Block 0 defines every variable, by the initial value.
            int start = defining[variable] | 1;
            int set = 0;
            for (int round = 0; round <= MAX_BLOCKS; round++) {
                int before = set;
                for (int block = 0; block < MAX_BLOCKS; block++) {
                    if (has(start | set, block)) {
                        set |= frontiers[block];
                    }
                }
                if (set == before) {
                    break;
                }
            }
            return set;
        }

        int lastDefinition(int block, int variable) {
            return lastDefinitions[variable * MAX_BLOCKS + block];
        }

        int countMerges() {
            int count = 0;
            for (int variable = 0; variable < VARIABLES; variable++) {
                count += Integer.bitCount(pruned[variable]);
            }
            return count;
        }

        int sourceAtBeginning(int block, int variable) {
            int at = block;
            for (int level = 0; level < MAX_BLOCKS; level++) {
                if (has(pruned[variable], at)) {
                    return FIRST_MERGE + at;
                }
                if (at == 0) {
                    return INITIAL;
                }
                at = parents[at];
                int definition = lastDefinition(at, variable);
                if (definition != NONE) {
                    return definition;
                }
            }
            return INITIAL;
        }

        int sourceAtEnd(int block, int variable) {
            int definition = lastDefinition(block, variable);
            return definition != NONE ? definition : sourceAtBeginning(block, variable);
        }

        int sourceAtUse(int block, int action) {
            int variable = graph.actionAt(block, action) - USE;
            int definition = graph.definitionBefore(block, variable, action);
            return definition != NONE ? definition : sourceAtBeginning(block, variable);
        }

        int countOperands(int block, int variable) {
            int count = 0;
            for (int from = 0; from < MAX_BLOCKS; from++) {
                if (has(sourcesOfEdges[block], from) && isNewOperand(block, variable, from)) {
                    count++;
                }
            }
            return count;
        }

        private boolean isNewOperand(int block, int variable, int from) {
            int operand = sourceAtEnd(from, variable);
            for (int earlier = 0; earlier < from; earlier++) {
                if (has(sourcesOfEdges[block], earlier) && sourceAtEnd(earlier, variable) == operand) {
                    return false;
                }
            }
            return true;
        }

        int countUses(int variable, int source) {
            int count = 0;
            for (int block = 0; block < MAX_BLOCKS; block++) {
                if (has(reachable, block)) {
                    count += countUsesIn(block, variable, source);
                }
            }
            return count;
        }

        private int countUsesIn(int block, int variable, int source) {
            int count = 0;
            for (int action = 0; action < graph.actionCounts[block]; action++) {
                if (graph.actionAt(block, action) == USE + variable && sourceAtUse(block, action) == source) {
                    count++;
                }
            }
            return count;
        }

        int countUnneeded() {
            for (int block = 0; block < MAX_BLOCKS; block++) {
                needed[block] = 0;
            }
            for (int block = 0; block < MAX_BLOCKS; block++) {
                if (has(reachable, block)) {
                    noteUses(block);
                    noteOperands(block);
                }
            }
            int count = 0;
            for (int block = 0; block < MAX_BLOCKS; block++) {
                if (has(reachable, block)) {
                    count += countUnneededIn(block);
                }
            }
            return count;
        }

        private void noteUses(int block) {
            for (int action = 0; action < graph.actionCounts[block]; action++) {
                if (isUse(graph.actionAt(block, action))) {
                    noteNeeded(sourceAtUse(block, action));
                }
            }
        }

        // A block's end is an operand once for each variable that a block behind it merges.
        private void noteOperands(int block) {
            for (int variable = 0; variable < VARIABLES; variable++) {
                if ((successors[block] & pruned[variable]) != 0) {
                    noteNeeded(sourceAtEnd(block, variable));
                }
            }
        }

        private void noteNeeded(int source) {
            if (source < FIRST_MERGE) {
                needed[source / BLOCK_FACTOR] |= 1 << source % BLOCK_FACTOR;
            }
        }

        private int countUnneededIn(int block) {
            int count = 0;
            for (int action = 0; action < graph.actionCounts[block]; action++) {
                if (!isUse(graph.actionAt(block, action)) && (needed[block] >> action & 1) == 0) {
                    count++;
                }
            }
            return count;
        }

        // The blocks from whose beginning the beginning of the block is reached without a definition between.
        int openBefore(int block, int variable) {
            int set = 1 << block;
            for (int round = 0; round < MAX_BLOCKS; round++) {
                int before = set;
                set |= sourcesOfEdgesTo(set) & ~defining[variable];
                if (set == before) {
                    break;
                }
            }
            return set;
        }

        // Only the last definition of a block leaves it, so a set of blocks tells the definitions.
        int reachingBlocks(int block, int variable) {
            return sourcesOfEdgesTo(openBefore(block, variable)) & defining[variable];
        }

        private int sourcesOfEdgesTo(int blocks) {
            int set = 0;
            for (int block = 0; block < MAX_BLOCKS; block++) {
                if (has(blocks, block)) {
                    set |= sourcesOfEdges[block];
                }
            }
            return set;
        }
    }

    private static final class History {
        private final Graph[] graphs = new Graph[MAX_CHANGES];
        private int latest = 0;
        int count = 0;

        History() {
            for (int place = 0; place < MAX_CHANGES; place++) {
                graphs[place] = new Graph();
            }
        }

        void remember(Graph graph) {
            latest = (latest + 1) % MAX_CHANGES;
            graphs[latest].become(graph);
            count = Math.min(count + 1, MAX_CHANGES);
        }

        void copyLatest(Graph graph) {
            graph.become(graphs[latest]);
        }

        void takeBack(Graph graph) {
            copyLatest(graph);
            latest = (latest + MAX_CHANGES - 1) % MAX_CHANGES;
            count--;
        }

        void forgetAll() {
            count = 0;
        }
    }

    private static final class Line {
        private final char[] characters = new char[MAX_INPUT];
        int length = 0;
        int block = 0;
        final int[] actions = new int[MAX_ACTIONS];
        int actionCount = 0;
        final int[] targets = new int[MAX_EDGES];
        int targetCount = 0;

        void put(char character) {
            if (length < MAX_INPUT) {
                characters[length] = character;
                length++;
            }
        }

        // Answers the error position, or NONE if the text is a line; the end of a text that
        // goes no further counts as a wrong character, for its index is the length.
        int read(int blocks) {
            block = letterAt(0) - 'a';
            actionCount = 0;
            targetCount = 0;
            if (block < 0 || block >= blocks) {
                return 0;
            }
            if (letterAt(1) != ':') {
                return 1;
            }
            readActions();
            int at = 2 + 2 * actionCount;
            if (at == length) {
                return NONE;
            }
            if (actionCount < MAX_ACTIONS && isActionLetter(letterAt(at))) {
                return at + 1;
            }
            // Without a second block there is no target, so no line goes on with this sign.
            if (letterAt(at) != '>' || blocks < 2) {
                return at;
            }
            readTargets(at + 1, blocks);
            int end = at + 1 + targetCount;
            return targetCount > 0 && end == length ? NONE : end;
        }

        private void readActions() {
            for (int number = 0; number < MAX_ACTIONS; number++) {
                char letter = letterAt(2 + 2 * number);
                int variable = letterAt(3 + 2 * number) - '0';
                if (!isActionLetter(letter) || variable < 0 || variable >= VARIABLES) {
                    break;
                }
                actions[number] = letter == 'u' ? USE + variable : variable;
                actionCount++;
            }
        }

        private void readTargets(int start, int blocks) {
            for (int number = 0; number < MAX_EDGES; number++) {
                int to = letterAt(start + number) - 'a';
                if (to < 1 || to >= blocks || isTarget(to)) {
                    break;
                }
                targets[number] = to;
                targetCount++;
            }
        }

        private boolean isTarget(int to) {
            for (int number = 0; number < targetCount; number++) {
                if (targets[number] == to) {
                    return true;
                }
            }
            return false;
        }

        private static boolean isActionLetter(char letter) {
            return letter == 'd' || letter == 'u';
        }

        private char letterAt(int index) {
            return index >= 0 && index < length ? characters[index] : (char) 0;
        }
    }

    private static final class Walk {
        final int[] blocks = new int[MAX_CHOICES + 1];
        int choices = 0;
        final long[] counts = new long[MAX_BLOCKS];
        private final long[] longer = new long[MAX_BLOCKS];

        int end() {
            return blocks[choices];
        }

        void goTo(int block) {
            if (choices < MAX_CHOICES) {
                choices++;
                blocks[choices] = block;
            }
        }

        void countWalks(Graph graph, int wanted) {
            for (int block = 0; block < MAX_BLOCKS; block++) {
                counts[block] = block == 0 ? 1 : 0;
            }
            for (int step = 0; step < wanted; step++) {
                lengthen(graph);
            }
        }

        private void lengthen(Graph graph) {
            for (int block = 0; block < MAX_BLOCKS; block++) {
                longer[block] = 0;
            }
            for (int block = 0; block < graph.blocks; block++) {
                for (int edge = 0; edge < graph.edgeCounts[block]; edge++) {
                    longer[graph.targetAt(block, edge)] += counts[block];
                }
            }
            System.arraycopy(longer, 0, counts, 0, MAX_BLOCKS);
        }
    }
}
