import java.util.function.Supplier;

/** The sentences of promises 1 to 14: the graph, its text and its changes. */
final class GraphBoundaries {
    private static final Supplier<SsaRepair> RICH = State.RICH;
    private static final Supplier<SsaRepair> FULL = State.FULL;
    private static final Supplier<SsaRepair> FRESH = State.FRESH;

    private GraphBoundaries() {
    }

    static void test() {
        newObject();
        reset();
        blockCount();
        append();
        define();
        defineRefused();
        errorPosition();
        removeAction();
        addEdge();
        addEdgeRefused();
        removeEdge();
        thread();
        threadRefused();
        actionCount();
        action();
        edgeCount();
        target();
    }

    private static void newObject() {
        Doc.promise(1);
        Doc.says("Creates a graph with one block, without actions and edges.");
        SsaRepair x = new SsaRepair();
        Check.is("graph", Check.show(x), "a:");
        Check.is("blocks", x.blockCount(), 1);
        Check.fails("no block 1", Check.INDEX, () -> x.actionCount(1));
        Check.fails("no action 0", Check.INDEX, () -> x.action(0, 0));
        Check.fails("no edge 0", Check.INDEX, () -> x.target(0, 0));
        Check.is("not the state of another object", Check.show(RICH.get()).equals(Check.show(new SsaRepair())), false);
        Check.is("block 0 is reachable", x.isReachable(0), true);
        Check.is("no merges", x.mergeCount(), 0);
        Check.is("no error was kept", Check.answer(x::errorPosition), "throws.NoSuchElementException");
        Check.is("no change is remembered", Check.answer(x::undo), "throws.NoSuchElementException");
        Check.is("nothing was saved", Check.answer(x::restore), "throws.IllegalStateException");
        Check.is("the walk is empty", x.clearWalk(), 0);
        Check.is("the input is empty", x.append(' '), 1);
    }

    private static void reset() {
        Doc.promise(2);
        Doc.says("- `blocks`: the number of blocks, 1 to 14");
        for (int blocks = 1; blocks <= 14; blocks++) {
            SsaRepair x = new SsaRepair();
            x.reset(blocks);
            Check.is("blocks", x.blockCount(), blocks);
        }
        Doc.says("Replaces the graph by one with some blocks, without actions and edges.");
        SsaRepair same = RICH.get();
        same.reset(6);
        Check.is("as many as before", Check.show(same), "a: b: c: d: e: f:");
        SsaRepair more = RICH.get();
        more.reset(14);
        Check.is("more", Check.show(more), "a: b: c: d: e: f: g: h: i: j: k: l: m: n:");
        SsaRepair one = RICH.get();
        one.reset(1);
        Check.is("one", Check.show(one), "a:");
        Check.is("the merges are gone", one.mergeCount(), 0);
        Doc.says("Returns the previous number of blocks.");
        SsaRepair x = new SsaRepair();
        Check.is("after a new object", x.reset(14), 1);
        Check.is("after 14", x.reset(14), 14);
        Check.is("after 14 again", x.reset(1), 14);
        Check.is("after 1", x.reset(2), 1);
        Doc.says("Throws `IllegalArgumentException` if blocks is out of range");
        for (int blocks : new int[] {0, 15, -1, -14, 16, 32, 33, Integer.MAX_VALUE, Integer.MIN_VALUE}) {
            State.refused("reset of " + blocks, Check.ARGUMENT, RICH, y -> y.reset(blocks));
        }
    }

    private static void blockCount() {
        Doc.promise(3);
        Doc.says("Returns the number of blocks.", "Returns 1 to 14.");
        Check.is("least", new SsaRepair().blockCount(), 1);
        Check.is("most", Check.graph(14).blockCount(), 14);
        SsaRepair x = Check.graph(12, "a:>b", "b:>c");
        x.thread(0, 1, 2);
        Check.is("after a threading", x.blockCount(), 13);
        x.thread(0, 12, 2);
        Check.is("after the last threading", x.blockCount(), 14);
        x.undo();
        Check.is("after an undo", x.blockCount(), 13);
    }

    private static void append() {
        Doc.promise(4);
        Doc.says("- `character`: the character, with a code from 32 to 126");
        for (int code = 32; code <= 126; code++) {
            Check.is("code " + code, new SsaRepair().append((char) code), 1);
        }
        Doc.says("Appends a character to the input.", "Returns the new length of the input.");
        SsaRepair x = Check.graph(2);
        Check.is("first", x.append('b'), 1);
        Check.is("second", x.append(':'), 2);
        Check.is("in order", x.define(), 1);
        for (int length = 1; length <= 30; length++) {
            Check.is("length", x.append('~'), length);
        }
        Doc.says("Throws `IllegalArgumentException` if the character code is out of range");
        for (int code : new int[] {0, 7, 31, 127, 128, 160, 255, 256 + 'a', 65535}) {
            State.refused("code " + code, Check.ARGUMENT, RICH, y -> y.append((char) code));
            State.refused("code " + code + ", and the input is full", Check.ARGUMENT, FULL, y -> y.append((char) code));
        }
        Doc.says("Throws `IllegalStateException` if the input has 30 characters");
        State.refused("the 31st", Check.STATE, FULL, y -> y.append('a'));
        SsaRepair full = FULL.get();
        Check.answer(full::define);
        Check.is("no more once it is empty", full.append('a'), 1);
    }

    private static void define() {
        Doc.promise(5);
        Doc.says("Replaces the actions and the edges of a block by those of the line in the input, in its order.");
        SsaRepair x = Check.graph(4, "b:u0u0u0u0u0u0>bcd", "b:d3u2d1u0d0u3>dbc");
        Check.is("six by six, three by three", Check.show(x), "a: b:d3u2d1u0d0u3>dbc c: d:");
        Check.define(x, "b:u1>c");
        Check.is("by fewer", Check.show(x), "a: b:u1>c c: d:");
        Check.define(x, "b:>b");
        Check.is("no actions", Check.show(x), "a: b:>b c: d:");
        Check.define(x, "b:d0");
        Check.is("no edges", Check.show(x), "a: b:d0 c: d:");
        Check.define(x, "b:");
        Check.is("neither", Check.show(x), "a: b: c: d:");
        Doc.says("Returns the number of the block.");
        SsaRepair all = Check.graph(14);
        for (int block = 0; block < 14; block++) {
            Check.is("block", Check.define(all, (char) ('a' + block) + ":u1"), block);
        }
        Doc.says("The input is empty afterwards, whatever happens.");
        Check.define(x, "b:d0u0d0u0d0u0>bcd");
        Check.is("after the longest line", x.append('b'), 1);
        Check.fails("cut", Check.ARGUMENT, x::define);
        Check.is("after an exception", x.append('b'), 1);
        SsaRepair full = FULL.get();
        Check.fails("30 characters", Check.ARGUMENT, full::define);
        Check.is("after 30 characters", full.append('b'), 1);
        SsaRepair none = new SsaRepair();
        Check.fails("no character", Check.ARGUMENT, none::define);
        Check.is("after no character", none.append('a'), 1);
    }

    private static void defineRefused() {
        Doc.promise(5);
        Doc.says("Throws `IllegalArgumentException` if the input is not a line; "
                + "the error position is then kept for errorPosition");
        SsaRepair x = RICH.get();
        SsaRepair same = RICH.get();
        Check.fails("b:u", Check.ARGUMENT, x::define);
        Check.is("kept", x.errorPosition(), 3);
        Check.is("graph stays", State.graph(x), State.graph(same));
        Check.is("report and walk stay", State.reportAndWalk(x), State.reportAndWalk(same));
        Check.is("changes stay", State.changes(x), State.changes(same));
        Check.is("what was saved stays", State.saved(x), State.saved(same));
        SsaRepair full = FULL.get();
        Check.fails("30 characters", Check.ARGUMENT, full::define);
        Check.is("kept of 30 characters", full.errorPosition(), 4);
        SsaRepair empty = new SsaRepair();
        Check.fails("no character", Check.ARGUMENT, empty::define);
        Check.is("kept of no character", empty.errorPosition(), 0);
    }

    private static void errorPosition() {
        Doc.promise(6);
        Doc.says("Returns the error position that was kept last.", "Returns the error position.");
        SsaRepair x = Check.graph(2);
        for (String text : new String[] {"a:d0d", "b:>", "", "c:", "a", "b:>ba"}) {
            Check.type(x, text);
            Check.fails(text, Check.ARGUMENT, x::define);
            Check.is(text, x.errorPosition(), text.equals("c:") ? 0 : text.equals("b:>ba") ? 4 : text.length());
        }
        Check.define(x, "a:>b");
        Check.is("a line keeps none", x.errorPosition(), 4);
        x.walk(0);
        x.undo();
        x.save();
        x.restore();
        x.reset(14);
        Check.is("nothing else changes it", x.errorPosition(), 4);
        Doc.says("Throws `NoSuchElementException` if none was kept");
        State.refused("new object", Check.MISSING, FRESH, SsaRepair::errorPosition);
        SsaRepair lines = Check.graph(3, "a:>b", "b:u0");
        Check.fails("lines keep none", Check.MISSING, lines::errorPosition);
        Check.type(lines, "nonsense");
        Check.fails("a text that was not given to define keeps none", Check.MISSING, lines::errorPosition);
    }

    private static void removeAction() {
        Doc.promise(7);
        Doc.says("Removes an action.", "The numbers of the later actions of the block decrease by 1.");
        String[] due = {"u1d2u3d1u2", "d0d2u3d1u2", "d0u1u3d1u2", "d0u1d2d1u2", "d0u1d2u3u2", "d0u1d2u3d1"};
        for (int action = 0; action < 6; action++) {
            SsaRepair x = Check.graph(14, "a:u0u0u0u0u0u0>n", "m:u1u1u1u1u1u1>bcd", "n:d0u1d2u3d1u2>bcn");
            x.removeAction(13, action);
            Check.is("of six", Check.show(x), "a:u0u0u0u0u0u0>n b: c: d: e: f: g: h: i: j: k: l: m:u1u1u1u1u1u1>bcd n:"
                    + due[action] + ">bcn");
        }
        Doc.says("Returns the number of actions of the block that remain.");
        SsaRepair x = Check.graph(1, "a:d0u1d2u3d1u2");
        for (int remain = 5; remain >= 0; remain--) {
            Check.is("remain", x.removeAction(0, 0), remain);
        }
        Doc.says("Throws `IndexOutOfBoundsException` if there is no such block or action");
        State.refusedOutside("block", 6, Check.INDEX, RICH, (y, block) -> y.removeAction(block, 0));
        State.refusedOutside("block", 14, Check.INDEX, FULL, (y, block) -> y.removeAction(block, 0));
        State.refusedOutside("action", 1, Check.INDEX, RICH, (y, action) -> y.removeAction(0, action));
        State.refusedOutside("action", 6, Check.INDEX, FULL, (y, action) -> y.removeAction(13, action));
        State.refused("no actions", Check.INDEX, FULL, y -> y.removeAction(0, 0));
        State.refused("block with an old row", Check.INDEX, RICH, y -> y.removeAction(6, 0));
        State.refused("action in an old row", Check.INDEX, RICH, y -> y.removeAction(1, 1));
        State.refused("new object", Check.INDEX, FRESH, y -> y.removeAction(0, 0));
    }

    private static void addEdge() {
        Doc.promise(8);
        Doc.says("Adds an edge, as the last one of its source.", "Returns the number of the edge.");
        SsaRepair x = Check.graph(14, "m:u0>b");
        Check.is("first", x.addEdge(13, 5), 0);
        Check.is("second, to itself", x.addEdge(13, 13), 1);
        Check.is("third", x.addEdge(13, 1), 2);
        Check.is("from block 0", x.addEdge(0, 13), 0);
        Check.is("graph", Check.show(x), "a:>n b: c: d: e: f: g: h: i: j: k: l: m:u0>b n:>fnb");
        x.removeEdge(13, 5);
        Check.is("after a removal", x.addEdge(13, 5), 2);
        Check.is("last after a removal", x.target(13, 2), 5);
    }

    private static void addEdgeRefused() {
        Doc.promise(8);
        Doc.says("Throws `IndexOutOfBoundsException` if there is no such block");
        State.refusedOutside("source", 6, Check.INDEX, RICH, (y, block) -> y.addEdge(block, 1));
        State.refusedOutside("target", 6, Check.INDEX, RICH, (y, block) -> y.addEdge(1, block));
        State.refusedOutside("source of 14", 14, Check.INDEX, FULL, (y, block) -> y.addEdge(block, 1));
        State.refusedOutside("target, and the source is full", 14, Check.INDEX, FULL, (y, block) -> y.addEdge(1, block));
        State.refusedOutside("source, and the target is block 0", 6, Check.INDEX, RICH, (y, block) -> y.addEdge(block, 0));
        Doc.says("Throws `IllegalArgumentException` if the target is block 0, or there is such an edge");
        State.refused("block 0 to itself", Check.ARGUMENT, RICH, y -> y.addEdge(0, 0));
        State.refused("to block 0", Check.ARGUMENT, RICH, y -> y.addEdge(4, 0));
        State.refused("in a new object", Check.ARGUMENT, FRESH, y -> y.addEdge(0, 0));
        State.refused("the first edge exists", Check.ARGUMENT, RICH, y -> y.addEdge(0, 1));
        State.refused("the second edge exists", Check.ARGUMENT, RICH, y -> y.addEdge(0, 2));
        State.refused("to block 0, and the source is full", Check.ARGUMENT, FULL, y -> y.addEdge(1, 0));
        State.refused("the edge exists, and the source is full", Check.ARGUMENT, FULL, y -> y.addEdge(13, 1));
        State.refused("the loop exists, and the source is full", Check.ARGUMENT, FULL, y -> y.addEdge(13, 13));
        Check.is("the other way is another edge", RICH.get().addEdge(1, 1), 1);
        Doc.says("Throws `IllegalStateException` if the source has 3 edges");
        State.refused("the fourth of b", Check.STATE, FULL, y -> y.addEdge(1, 4));
        State.refused("the fourth of the last block", Check.STATE, FULL, y -> y.addEdge(13, 2));
        SsaRepair x = FULL.get();
        x.removeEdge(13, 13);
        Check.is("with 2 edges", x.addEdge(13, 2), 2);
        Check.fails("with 3 edges again", Check.STATE, () -> x.addEdge(13, 13));
    }

    private static void removeEdge() {
        Doc.promise(9);
        Doc.says("Removes an edge.", "The numbers of the later edges of its source decrease by 1.");
        int[] targets = {1, 13, 3};
        String[] due = {">nd", ">bd", ">bn"};
        for (int edge = 0; edge < 3; edge++) {
            SsaRepair x = Check.graph(14, "m:u0>bcd", "n:u1>bnd");
            x.removeEdge(13, targets[edge]);
            Check.is("of three", Check.show(x), "a: b: c: d: e: f: g: h: i: j: k: l: m:u0>bcd n:u1" + due[edge]);
        }
        Doc.says("Returns the number of edges of the source that remain.");
        SsaRepair x = Check.graph(4, "b:>bcd");
        Check.is("two", x.removeEdge(1, 1), 2);
        Check.is("one", x.removeEdge(1, 2), 1);
        Check.is("none", x.removeEdge(1, 3), 0);
        Doc.says("Throws `IndexOutOfBoundsException` if there is no such block");
        State.refusedOutside("source", 6, Check.INDEX, RICH, (y, block) -> y.removeEdge(block, 1));
        State.refusedOutside("target", 6, Check.INDEX, RICH, (y, block) -> y.removeEdge(0, block));
        State.refusedOutside("source of 14", 14, Check.INDEX, FULL, (y, block) -> y.removeEdge(block, 1));
        State.refusedOutside("target of 14", 14, Check.INDEX, FULL, (y, block) -> y.removeEdge(13, block));
        Doc.says("Throws `NoSuchElementException` if there is no such edge");
        State.refused("none to block 0", Check.MISSING, RICH, y -> y.removeEdge(1, 0));
        State.refused("none from block 0 to itself", Check.MISSING, FRESH, y -> y.removeEdge(0, 0));
        State.refused("the other way", Check.MISSING, RICH, y -> y.removeEdge(3, 1));
        State.refused("no loop", Check.MISSING, RICH, y -> y.removeEdge(3, 3));
        State.refused("a source without edges", Check.MISSING, FULL, y -> y.removeEdge(4, 1));
        State.refused("in an old row", Check.MISSING, RICH, y -> y.removeEdge(1, 2));
        Check.fails("removed before", Check.MISSING, () -> x.removeEdge(1, 3));
    }

    private static void thread() {
        Doc.promise(10);
        Doc.says("Threads an edge and an edge behind it.", "Returns the number of the new block.");
        SsaRepair x = Check.graph(2, "a:>b", "b:d0u0d1u1d2u2>b");
        for (int block = 2; block < 14; block++) {
            Check.is("new block", x.thread(0, block == 2 ? 1 : block - 1, 1), block);
            Check.is("its actions", x.actionCount(block), 6);
            Check.is("its edges", x.edgeCount(block), 1);
            Check.is("its target", x.target(block, 0), 1);
            Check.is("the edge of p", x.target(0, 0), block);
        }
    }

    private static void threadRefused() {
        Doc.promise(10);
        Doc.says("Throws `IndexOutOfBoundsException` if there is no such block");
        State.refusedOutside("p", 6, Check.INDEX, RICH, (y, block) -> y.thread(block, 1, 3));
        State.refusedOutside("b", 6, Check.INDEX, RICH, (y, block) -> y.thread(0, block, 3));
        State.refusedOutside("t", 6, Check.INDEX, RICH, (y, block) -> y.thread(0, 1, block));
        State.refusedOutside("t, and no edge to b", 6, Check.INDEX, RICH, (y, block) -> y.thread(0, 4, block));
        State.refusedOutside("t, and 14 blocks", 14, Check.INDEX, FULL, (y, block) -> y.thread(0, 1, block));
        Doc.says("Throws `NoSuchElementException` if there is no edge from p to b, or none from b to t");
        State.refused("none from p", Check.MISSING, RICH, y -> y.thread(0, 3, 4));
        State.refused("none from b", Check.MISSING, RICH, y -> y.thread(0, 1, 2));
        State.refused("neither", Check.MISSING, RICH, y -> y.thread(3, 1, 2));
        State.refused("b is block 0", Check.MISSING, RICH, y -> y.thread(4, 0, 1));
        State.refused("t is block 0", Check.MISSING, RICH, y -> y.thread(0, 1, 0));
        State.refused("new object", Check.MISSING, FRESH, y -> y.thread(0, 0, 0));
        State.refused("none from p, and 14 blocks", Check.MISSING, FULL, y -> y.thread(0, 13, 1));
        State.refused("none from b, and 14 blocks", Check.MISSING, FULL, y -> y.thread(0, 1, 4));
        Doc.says("Throws `IllegalStateException` if there are 14 blocks");
        State.refused("the 15th", Check.STATE, FULL, y -> y.thread(0, 1, 2));
        State.refused("the 15th, around a loop", Check.STATE, FULL, y -> y.thread(13, 13, 13));
        SsaRepair x = Check.graph(13, "a:>b", "b:>bc");
        Check.is("the 14th", x.thread(0, 1, 2), 13);
        Check.fails("the 15th after it", Check.STATE, () -> x.thread(0, 13, 2));
    }

    private static void actionCount() {
        Doc.promise(11);
        Doc.says("Returns the number of actions of a block.", "Returns 0 to 6.");
        for (int actions = 0; actions <= 6; actions++) {
            SsaRepair x = Check.graph(14, "m:d1d1d1", "n:" + "u2".repeat(actions));
            Check.is("of the last block", x.actionCount(13), actions);
            Check.is("of block 0", x.actionCount(0), 0);
        }
        Doc.says("Throws `IndexOutOfBoundsException` if there is no such block");
        State.refusedOutside("block", 6, Check.INDEX, RICH, SsaRepair::actionCount);
        State.refusedOutside("block of 14", 14, Check.INDEX, FULL, SsaRepair::actionCount);
        State.refusedOutside("block of 1", 1, Check.INDEX, FRESH, SsaRepair::actionCount);
    }

    private static void action() {
        Doc.promise(12);
        Doc.says("Returns an action.", "Returns the variable for a definition, 10 plus the variable for a use.");
        SsaRepair x = Check.graph(14, "a:d0d1d2d3", "n:u0u1u2u3d3d0");
        for (int variable = 0; variable < 4; variable++) {
            Check.is("definition", x.action(0, variable), variable);
            Check.is("use", x.action(13, variable), 10 + variable);
        }
        Check.is("fifth", x.action(13, 4), 3);
        Check.is("sixth", x.action(13, 5), 0);
        Doc.says("Throws `IndexOutOfBoundsException` if there is no such block or action");
        State.refusedOutside("block", 6, Check.INDEX, RICH, (y, block) -> y.action(block, 0));
        State.refusedOutside("action of 1", 1, Check.INDEX, RICH, (y, action) -> y.action(1, action));
        State.refusedOutside("action of 6", 6, Check.INDEX, FULL, (y, action) -> y.action(13, action));
        State.refusedOutside("action of none", 0, Check.INDEX, FULL, (y, action) -> y.action(0, action));
        State.refused("neither", Check.INDEX, RICH, y -> y.action(6, 6));
    }

    private static void edgeCount() {
        Doc.promise(13);
        Doc.says("Returns the number of edges of a block.", "Returns 0 to 3.");
        String[] ends = {"", ">n", ">nb", ">nbc"};
        for (int edges = 0; edges <= 3; edges++) {
            SsaRepair x = Check.graph(14, "m:>bc", "n:" + ends[edges]);
            Check.is("of the last block", x.edgeCount(13), edges);
            Check.is("of block 0", x.edgeCount(0), 0);
        }
        Doc.says("Throws `IndexOutOfBoundsException` if there is no such block");
        State.refusedOutside("block", 6, Check.INDEX, RICH, SsaRepair::edgeCount);
        State.refusedOutside("block of 14", 14, Check.INDEX, FULL, SsaRepair::edgeCount);
        State.refusedOutside("block of 1", 1, Check.INDEX, FRESH, SsaRepair::edgeCount);
    }

    private static void target() {
        Doc.promise(14);
        Doc.says("Returns the block to which an edge leads.", "Returns the target.");
        SsaRepair x = FULL.get();
        Check.is("first", x.target(13, 0), 13);
        Check.is("second", x.target(13, 1), 12);
        Check.is("third", x.target(13, 2), 1);
        Check.is("of block 0", x.target(0, 0), 1);
        Doc.says("Throws `IndexOutOfBoundsException` if there is no such block or edge");
        State.refusedOutside("block", 6, Check.INDEX, RICH, (y, block) -> y.target(block, 0));
        State.refusedOutside("edge of 1", 1, Check.INDEX, RICH, (y, edge) -> y.target(1, edge));
        State.refusedOutside("edge of 3", 3, Check.INDEX, FULL, (y, edge) -> y.target(13, edge));
        State.refusedOutside("edge of none", 0, Check.INDEX, FRESH, (y, edge) -> y.target(0, edge));
        State.refused("neither", Check.INDEX, RICH, y -> y.target(6, 3));
    }
}
