/** Promises 1 to 14: the graph, its text and its changes. */
public final class GraphTests {
    public static void main(String[] args) {
        newObject();
        reset();
        append();
        define();
        defineOrder();
        errorPosition();
        errorPositions();
        removeAction();
        addEdge();
        removeEdge();
        thread();
        threadLoops();
        questions();
        Check.end("GraphTests");
    }

    private static void newObject() {
        SsaRepair x = new SsaRepair();
        Check.is("1: blockCount", x.blockCount(), 1);
        Check.is("1: graph", Check.show(x), "a:");
        Check.is("1: actionCount", x.actionCount(0), 0);
        Check.is("1: edgeCount", x.edgeCount(0), 0);
        Check.is("1: isReachable", x.isReachable(0), true);
        Check.is("1: mergeCount", x.mergeCount(), 0);
        Check.is("1: unneeded", x.unneeded(), 0);
        Check.is("1: walkEnd", x.walkEnd(), 0);
        Check.is("1: clearWalk", x.clearWalk(), 0);
        Check.is("1: input is empty", x.append('a'), 1);
        Check.is("1: newlyReachable", x.newlyReachable(), 0);
        Check.fails("1: undo", Check.MISSING, x::undo);
        Check.fails("1: restore", Check.STATE, x::restore);
        Check.fails("1: errorPosition", Check.MISSING, x::errorPosition);
    }

    private static void reset() {
        SsaRepair x = new SsaRepair();
        Check.is("2: first", x.reset(14), 1);
        Check.is("2: second", x.reset(3), 14);
        Check.is("3: blockCount", x.blockCount(), 3);
        Check.define(x, "a:d0u1>bc");
        Check.type(x, "b:");
        x.walk(0);
        Check.fails("2: 0 blocks", Check.ARGUMENT, () -> x.reset(0));
        Check.fails("2: 15 blocks", Check.ARGUMENT, () -> x.reset(15));
        Check.fails("2: -1 blocks", Check.ARGUMENT, () -> x.reset(-1));
        Check.fails("2: least int", Check.ARGUMENT, () -> x.reset(Integer.MIN_VALUE));
        Check.is("2: unchanged", Check.show(x), "a:d0u1>bc b: c:");
        Check.is("2: walk unchanged", x.walkEnd(), 1);
        Check.is("2: third", x.reset(3), 3);
        Check.is("2: emptied", Check.show(x), "a: b: c:");
        Check.is("2: walk emptied", x.clearWalk(), 0);
        Check.fails("2: changes forgotten", Check.MISSING, x::undo);
        Check.is("2: report is empty", x.newlyReachable(), 0);
        Check.is("2: input stays", x.append('d'), 3);
        x.reset(1);
        x.reset(14);
        Check.is("2: no old rows come back", Check.show(x), "a: b: c: d: e: f: g: h: i: j: k: l: m: n:");
    }

    private static void append() {
        SsaRepair x = new SsaRepair();
        Check.fails("4: 31", Check.ARGUMENT, () -> x.append((char) 31));
        Check.fails("4: 127", Check.ARGUMENT, () -> x.append((char) 127));
        Check.fails("4: 65535", Check.ARGUMENT, () -> x.append((char) 65535));
        Check.fails("4: 0", Check.ARGUMENT, () -> x.append((char) 0));
        Check.is("4: 32", x.append((char) 32), 1);
        Check.is("4: 126", x.append((char) 126), 2);
        for (int length = 3; length <= 30; length++) {
            Check.is("4: length", x.append('a'), length);
        }
        Check.fails("4: full", Check.STATE, () -> x.append('a'));
        Check.fails("4: full and out of range", Check.ARGUMENT, () -> x.append((char) 7));
        Check.fails("4: a full input is no line", Check.ARGUMENT, x::define);
        Check.is("4: emptied by define", x.append('a'), 1);
    }

    private static void define() {
        SsaRepair x = Check.graph(3, "a:>b");
        Check.is("5: answer", Check.define(x, "c:d0u3d2u1d1u0>cb"), 2);
        Check.is("5: graph", Check.show(x), "a:>b b: c:d0u3d2u1d1u0>cb");
        Check.is("5: replaced", Check.define(x, "c:u2"), 2);
        Check.is("5: edges replaced too", Check.show(x), "a:>b b: c:u2");
        x.walk(0);
        Check.define(x, "b:");
        Check.is("5: the walk is empty, though the graph is as before", x.clearWalk(), 0);
        Check.is("5: a change, though the graph is as before", x.undo(), 3);
        Check.type(x, "c:u");
        x.walk(0);
        Check.fails("5: not a line", Check.ARGUMENT, x::define);
        Check.is("5: graph stays", Check.show(x), "a:>b b: c:u2");
        Check.is("5: walk stays", x.walkEnd(), 1);
        Check.is("5: input is empty after an exception", x.append('b'), 1);
        x.append(':');
        Check.is("5: a bare line", x.define(), 1);
        Check.is("5: input is empty after a line", x.append('b'), 1);
        Check.is("5: no more changes than lines", x.undo(), 3);
    }

    private static void defineOrder() {
        SsaRepair x = Check.graph(14, "a:d0d1d2d3u0u1>nmb", "n:u3>nb");
        Check.is("5: targets in order", x.target(0, 0) * 10000 + x.target(0, 1) * 100 + x.target(0, 2), 131201);
        Check.is("5: last block", x.target(13, 0), 13);
        Check.is("5: last use", x.action(13, 0), 13);
    }

    private static void errorPosition() {
        SsaRepair x = new SsaRepair();
        Check.fails("6: none kept", Check.MISSING, x::errorPosition);
        Check.define(x, "a:");
        Check.fails("6: none kept by a line", Check.MISSING, x::errorPosition);
        Check.fails("6: empty input", Check.ARGUMENT, x::define);
        Check.is("6: empty input", x.errorPosition(), 0);
        Check.type(x, "a:d0d");
        Check.fails("6: cut", Check.ARGUMENT, x::define);
        Check.is("6: cut", x.errorPosition(), 5);
        Check.define(x, "a:d0");
        Check.is("6: stays after a line", x.errorPosition(), 5);
        x.reset(3);
        x.save();
        x.restore();
        Check.is("6: stays after reset and restore", x.errorPosition(), 5);
        Check.is("6: asking keeps it", x.errorPosition(), 5);
    }

    private static void errorPositions() {
        errorIn(1, "a:>", 2);
        errorIn(1, "a:d0>", 4);
        errorIn(1, "b:", 0);
        errorIn(2, "a:>", 3);
        errorIn(2, "c:", 0);
        errorIn(2, "b:>bc", 4);
        errorIn(2, "b:>c", 3);
        errorIn(14, "o:", 0);
        errorIn(14, "A:", 0);
        errorIn(14, " a:", 0);
        errorIn(14, "a", 1);
        errorIn(14, "ab", 1);
        errorIn(14, "a;", 1);
        errorIn(14, "a: ", 2);
        errorIn(14, "a:d", 3);
        errorIn(14, "a:d4", 3);
        errorIn(14, "a:u/", 3);
        errorIn(14, "a:d>", 3);
        errorIn(14, "a:x0", 2);
        errorIn(14, "a:0", 2);
        errorIn(14, "a:d0d1d2d3u0u1d", 14);
        errorIn(14, "a:d0d1d2d3u0u1d0", 14);
        errorIn(14, "a:d0d1d2d3u0u1>", 15);
        errorIn(14, "a:d0d1d2d3u0u1>bcde", 18);
        errorIn(14, "a:>a", 3);
        errorIn(14, "a:>ba", 4);
        errorIn(14, "a:>bcb", 5);
        errorIn(14, "a:>bcd>", 6);
        errorIn(14, "a:>>", 3);
        errorIn(14, "a:>bd0", 5);
        errorIn(14, "a:>o", 3);
        errorIn(14, "a:>b ", 4);
        errorIn(14, "aaaaaaaaaaaaaaaaaaaaaaaaaaaaaa", 1);
    }

    private static void errorIn(int blocks, String text, int due) {
        SsaRepair x = Check.graph(blocks);
        Check.type(x, text);
        Check.fails("6: " + text, Check.ARGUMENT, x::define);
        Check.is("6: error position of " + text, x.errorPosition(), due);
        Check.fails("6: no change by " + text, Check.MISSING, x::undo);
    }

    private static void removeAction() {
        SsaRepair x = Check.graph(2, "a:d0u1d2>b", "b:u3");
        Check.fails("7: action 3", Check.INDEX, () -> x.removeAction(0, 3));
        Check.fails("7: action -1", Check.INDEX, () -> x.removeAction(0, -1));
        Check.fails("7: block 2", Check.INDEX, () -> x.removeAction(2, 0));
        Check.fails("7: block -1", Check.INDEX, () -> x.removeAction(-1, 0));
        Check.is("7: no change", x.undo(), 1);
        Check.define(x, "b:u3");
        x.walk(0);
        Check.is("7: the first", x.removeAction(0, 0), 2);
        Check.is("7: moved up", Check.show(x), "a:u1d2>b b:u3");
        Check.is("7: the walk is empty", x.clearWalk(), 0);
        Check.is("7: the last", x.removeAction(0, 1), 1);
        Check.is("7: the only", x.removeAction(0, 0), 0);
        Check.fails("7: none is left", Check.INDEX, () -> x.removeAction(0, 0));
        Check.is("7: others stay", Check.show(x), "a:>b b:u3");
        Check.is("7: undo", x.undo(), 4);
        Check.is("7: undone", Check.show(x), "a:u1>b b:u3");
        SsaRepair y = Check.graph(1, "a:d0u1d2u3d1u2");
        Check.is("7: in the middle of six", y.removeAction(0, 2), 5);
        Check.is("7: six", Check.show(y), "a:d0u1u3d1u2");
        SsaRepair z = Check.graph(14, "n:d0u1d2u3d1u2>bcd");
        Check.is("7: the last row is full", z.removeAction(13, 0), 5);
        Check.is("9: the last row is full", z.removeEdge(13, 2), 2);
        Check.is("7: first of the last row", z.action(13, 0), 11);
        Check.is("9: first of the last row", z.target(13, 0), 1);
    }

    private static void addEdge() {
        SsaRepair x = Check.graph(6);
        Check.is("8: first", x.addEdge(1, 3), 0);
        Check.is("8: to itself", x.addEdge(1, 1), 1);
        x.addEdge(0, 1);
        x.walk(0);
        Check.fails("8: to block 0", Check.ARGUMENT, () -> x.addEdge(1, 0));
        Check.fails("8: exists", Check.ARGUMENT, () -> x.addEdge(1, 3));
        Check.fails("8: from 6", Check.INDEX, () -> x.addEdge(6, 1));
        Check.fails("8: to 6", Check.INDEX, () -> x.addEdge(1, 6));
        Check.fails("8: from -1 to 0", Check.INDEX, () -> x.addEdge(-1, 0));
        Check.fails("8: to -1", Check.INDEX, () -> x.addEdge(1, -1));
        Check.is("8: walk stays", x.walkEnd(), 1);
        Check.is("8: third", x.addEdge(1, 2), 2);
        Check.is("8: walk is empty", x.clearWalk(), 0);
        Check.fails("8: fourth", Check.STATE, () -> x.addEdge(1, 4));
        Check.fails("8: full and exists", Check.ARGUMENT, () -> x.addEdge(1, 2));
        Check.fails("8: full and to block 0", Check.ARGUMENT, () -> x.addEdge(1, 0));
        Check.is("8: graph", Check.show(x), "a:>b b:>dbc c: d: e: f:");
        Check.is("8: changes", x.undo(), 3);
    }

    private static void removeEdge() {
        SsaRepair x = Check.graph(5, "a:>bcd", "b:>b");
        x.walk(0);
        Check.fails("9: no edge", Check.MISSING, () -> x.removeEdge(0, 4));
        Check.fails("9: to block 0", Check.MISSING, () -> x.removeEdge(1, 0));
        Check.fails("9: other way", Check.MISSING, () -> x.removeEdge(2, 0));
        Check.fails("9: from 5", Check.INDEX, () -> x.removeEdge(5, 1));
        Check.fails("9: to 5", Check.INDEX, () -> x.removeEdge(0, 5));
        Check.fails("9: from -1", Check.INDEX, () -> x.removeEdge(-1, 1));
        Check.fails("9: to -1", Check.INDEX, () -> x.removeEdge(0, -1));
        Check.is("9: walk stays", x.walkEnd(), 1);
        Check.is("9: first", x.removeEdge(0, 1), 2);
        Check.is("9: walk is empty", x.clearWalk(), 0);
        Check.is("9: moved up", x.target(0, 0) * 10 + x.target(0, 1), 23);
        Check.is("9: last", x.removeEdge(0, 3), 1);
        Check.is("9: loop", x.removeEdge(1, 1), 0);
        Check.is("9: only", x.removeEdge(0, 2), 0);
        Check.is("9: graph", Check.show(x), "a: b: c: d: e:");
        Check.is("9: changes", x.undo(), 5);
    }

    private static void thread() {
        SsaRepair x = Check.graph(5, "a:>bc", "b:u0d0>dec", "c:>b");
        x.walk(0);
        Check.fails("10: p", Check.INDEX, () -> x.thread(5, 1, 2));
        Check.fails("10: b", Check.INDEX, () -> x.thread(0, 5, 2));
        Check.fails("10: t", Check.INDEX, () -> x.thread(0, 1, 5));
        Check.fails("10: -1", Check.INDEX, () -> x.thread(0, 1, -1));
        Check.fails("10: no first edge", Check.MISSING, () -> x.thread(0, 3, 2));
        Check.fails("10: no second edge", Check.MISSING, () -> x.thread(0, 2, 3));
        Check.fails("10: through block 0", Check.MISSING, () -> x.thread(2, 0, 1));
        Check.is("10: walk stays", x.walkEnd(), 1);
        Check.is("10: answer", x.thread(0, 1, 4), 5);
        Check.is("10: graph", Check.show(x), "a:>fc b:u0d0>dec c:>b d: e: f:u0d0>e");
        Check.is("10: walk is empty", x.clearWalk(), 0);
        Check.is("10: undo", x.undo(), 3);
        Check.is("10: undone", Check.show(x), "a:>bc b:u0d0>dec c:>b d: e:");
        SsaRepair full = Check.graph(14, "a:>b", "b:>c");
        Check.fails("10: 14 blocks", Check.STATE, () -> full.thread(0, 1, 2));
        Check.fails("10: 14 blocks and no edge", Check.MISSING, () -> full.thread(0, 2, 1));
        Check.fails("10: 14 blocks and no block", Check.INDEX, () -> full.thread(0, 1, 14));
        SsaRepair last = Check.graph(13, "a:>b", "b:>c");
        Check.is("10: the 14th", last.thread(0, 1, 2), 13);
    }

    private static void threadLoops() {
        SsaRepair x = Check.graph(3, "a:>b", "b:u1d1>bc", "c:");
        Check.is("10: p is b", x.thread(1, 1, 2), 3);
        Check.is("10: p is b, graph", Check.show(x), "a:>b b:u1d1>dc c: d:u1d1>c");
        SsaRepair y = Check.graph(3, "a:>b", "b:u1>bc", "c:");
        Check.is("10: b is t", y.thread(0, 1, 1), 3);
        Check.is("10: b is t, graph", Check.show(y), "a:>d b:u1>bc c: d:u1>b");
        SsaRepair z = Check.graph(3, "a:>b", "b:u1>cb", "c:");
        Check.is("10: p is b is t", z.thread(1, 1, 1), 3);
        Check.is("10: p is b is t, graph", Check.show(z), "a:>b b:u1>cd c: d:u1>b");
        SsaRepair w = Check.graph(14, "b:d0d1d2", "n:d0>b");
        w.undo();
        w.reset(3);
        Check.define(w, "a:>b");
        Check.define(w, "b:u2>c");
        Check.is("10: a number used before", w.thread(0, 1, 2), 3);
        Check.is("10: nothing left of old rows", Check.show(w), "a:>d b:u2>c c: d:u2>c");
        SsaRepair away = Check.graph(3, "b:>c", "c:>b");
        Check.is("10: unreachable blocks can be threaded", away.thread(1, 2, 1), 3);
    }

    private static void questions() {
        SsaRepair x = Check.graph(3, "a:d3u2>cb", "c:u0d0u1d1u2d2");
        Check.is("11: two", x.actionCount(0), 2);
        Check.is("11: none", x.actionCount(1), 0);
        Check.is("11: six", x.actionCount(2), 6);
        Check.fails("11: block 3", Check.INDEX, () -> x.actionCount(3));
        Check.fails("11: block -1", Check.INDEX, () -> x.actionCount(-1));
        Check.is("12: definition", x.action(0, 0), 3);
        Check.is("12: use", x.action(0, 1), 12);
        Check.is("12: use of 0", x.action(2, 0), 10);
        Check.is("12: definition of 0", x.action(2, 1), 0);
        Check.fails("12: action 2", Check.INDEX, () -> x.action(0, 2));
        Check.fails("12: action -1", Check.INDEX, () -> x.action(0, -1));
        Check.fails("12: action 6", Check.INDEX, () -> x.action(2, 6));
        Check.fails("12: block 3", Check.INDEX, () -> x.action(3, 0));
        Check.fails("12: block -1", Check.INDEX, () -> x.action(-1, 0));
        Check.is("13: two", x.edgeCount(0), 2);
        Check.is("13: none", x.edgeCount(2), 0);
        Check.fails("13: block 3", Check.INDEX, () -> x.edgeCount(3));
        Check.fails("13: block -1", Check.INDEX, () -> x.edgeCount(-1));
        Check.is("14: first", x.target(0, 0), 2);
        Check.is("14: second", x.target(0, 1), 1);
        Check.fails("14: edge 2", Check.INDEX, () -> x.target(0, 2));
        Check.fails("14: edge -1", Check.INDEX, () -> x.target(0, -1));
        Check.fails("14: block 3", Check.INDEX, () -> x.target(3, 0));
        Check.fails("14: block -1", Check.INDEX, () -> x.target(-1, 0));
        Check.fails("14: largest int", Check.INDEX, () -> x.target(Integer.MAX_VALUE, Integer.MAX_VALUE));
    }
}
