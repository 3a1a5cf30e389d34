/** Promises 33 to 46: reports of changes, undo, walks and saving. */
public final class ChangeTests {
    public static void main(String[] args) {
        reportOfThreading();
        reportOfEdges();
        changedUses();
        emptyReports();
        undo();
        undoOfEight();
        walk();
        longWalk();
        onWalk();
        walks();
        density();
        saving();
        Check.end("ChangeTests");
    }

    private static void report(String what, SsaRepair x, int added, int removed, int uses, int reachable) {
        Check.is("33: " + what, x.addedMerges(), added);
        Check.is("34: " + what, x.removedMerges(), removed);
        Check.is("35: " + what, x.changedUses(), uses);
        Check.is("36: " + what, x.newlyReachable(), reachable);
    }

    private static void reportOfThreading() {
        SsaRepair x = Check.graph(6, "a:d0>bc", "b:>d", "c:d0>d", "d:u0>ef", "e:", "f:");
        Check.is("33: before", x.merges(0), Check.set(3));
        x.thread(1, 3, 4);
        report("threaded", x, 0, 1, 1, Check.set(6));
        x.undo();
        x.addEdge(4, 4);
        report("no difference", x, 0, 0, 0, 0);
        SsaRepair y = Check.graph(5, "a:d0>bc", "b:>d", "c:d0>d", "d:>e", "e:u0");
        Check.is("33: merge at d", y.merges(0), Check.set(3));
        y.thread(1, 3, 4);
        Check.is("33: merge at e", y.merges(0), Check.set(4));
        report("merge moved", y, 1, 1, 1, Check.set(5));
    }

    private static void reportOfEdges() {
        SsaRepair x = Check.graph(4, "a:d0d1>bc", "b:d0d1>d", "c:", "d:u0u1");
        x.addEdge(2, 3);
        report("edge added", x, 2, 0, 2, 0);
        x.removeEdge(2, 3);
        report("edge removed", x, 0, 2, 2, 0);
        x.removeEdge(0, 1);
        report("cut off", x, 0, 0, 0, 0);
        x.addEdge(0, 1);
        report("reached again", x, 0, 0, 0, Check.set(1, 3));
        x.undo();
        report("the change before the undone one", x, 0, 0, 0, 0);
    }

    private static void changedUses() {
        SsaRepair x = Check.graph(2, "a:d0>b", "b:u0u1u0");
        x.removeAction(0, 0);
        report("two uses", x, 0, 0, 2, 0);
        x.removeAction(1, 1);
        report("another variable at the same number", x, 0, 0, 0, 0);
        Check.define(x, "a:d0d1>b");
        report("back", x, 0, 0, 2, 0);
        Check.define(x, "b:u1u1u0");
        report("only the same variable counts", x, 0, 0, 0, 0);
        x.removeAction(0, 0);
        report("the number of a source counts", x, 0, 0, 3, 0);
        Check.define(x, "b:d1u1u0");
        report("a definition is no use", x, 0, 0, 1, 0);
    }

    private static void emptyReports() {
        SsaRepair x = new SsaRepair();
        report("new object", x, 0, 0, 0, 0);
        x.reset(3);
        report("reset", x, 0, 0, 0, 0);
        x.addEdge(0, 1);
        report("one change", x, 0, 0, 0, Check.set(1));
        x.save();
        report("save keeps it", x, 0, 0, 0, Check.set(1));
        x.restore();
        report("restore", x, 0, 0, 0, 0);
        x.addEdge(0, 2);
        report("another change", x, 0, 0, 0, Check.set(2));
        Check.fails("36: a failing change", Check.ARGUMENT, () -> x.addEdge(0, 2));
        report("a failing change leaves it", x, 0, 0, 0, Check.set(2));
        x.undo();
        report("all undone", x, 0, 0, 0, 0);
    }

    private static void undo() {
        SsaRepair x = new SsaRepair();
        Check.fails("37: nothing", Check.MISSING, x::undo);
        x.reset(3);
        Check.fails("37: reset is no change", Check.MISSING, x::undo);
        Check.define(x, "a:u0>b");
        x.addEdge(0, 2);
        x.thread(0, 1, 1 + x.addEdge(1, 2) + 1);
        Check.is("37: graph", Check.show(x), "a:u0>dc b:>c c: d:>c");
        x.walk(0);
        Check.is("37: thread", x.undo(), 3);
        Check.is("37: walk is empty", x.clearWalk(), 0);
        Check.is("37: graph after one", Check.show(x), "a:u0>bc b:>c c:");
        Check.is("37: dominators follow", x.parent(2), 0);
        Check.is("37: addEdge", x.undo(), 2);
        Check.is("37: addEdge again", x.undo(), 1);
        Check.is("37: define", x.undo(), 0);
        Check.is("37: graph after all", Check.show(x), "a: b: c:");
        Check.fails("37: no more", Check.MISSING, x::undo);
    }

    private static void undoOfEight() {
        SsaRepair x = Check.graph(12);
        for (int block = 1; block <= 10; block++) {
            x.addEdge(block, 11);
        }
        Check.is("37: first", x.undo(), 7);
        Check.is("37: second", x.undo(), 6);
        x.addEdge(0, 1);
        report("after a change", x, 0, 0, 0, Check.set(1, 11));
        for (int left = 6; left >= 0; left--) {
            Check.is("37: left", x.undo(), left);
        }
        Check.fails("37: the ninth", Check.MISSING, x::undo);
        Check.is("37: two stay", Check.show(x), "a: b:>l c:>l d: e: f: g: h: i: j: k: l:");
        report("a change that is not remembered", x, 0, 0, 0, 0);
    }

    private static void walk() {
        SsaRepair x = Check.graph(4, "a:>bc", "b:>b", "c:>d");
        Check.is("40: new", x.walkEnd(), 0);
        Check.fails("38: edge 2", Check.MISSING, () -> x.walk(2));
        Check.fails("38: edge -1", Check.MISSING, () -> x.walk(-1));
        Check.fails("38: largest int", Check.MISSING, () -> x.walk(Integer.MAX_VALUE));
        Check.is("38: second edge", x.walk(1), 2);
        Check.is("40: c", x.walkEnd(), 2);
        Check.fails("38: edge 1 of c", Check.MISSING, () -> x.walk(1));
        Check.is("38: d", x.walk(0), 3);
        Check.fails("38: no edge", Check.MISSING, () -> x.walk(0));
        Check.is("40: d", x.walkEnd(), 3);
        Check.is("39: two", x.clearWalk(), 2);
        Check.is("39: none", x.clearWalk(), 0);
        Check.is("40: a", x.walkEnd(), 0);
        x.walk(0);
        x.save();
        Check.is("40: save leaves it", x.walkEnd(), 1);
        x.restore();
        Check.is("40: restore empties it", x.walkEnd(), 0);
    }

    private static void longWalk() {
        SsaRepair x = Check.graph(2, "a:d1>b", "b:>b");
        for (int choice = 0; choice < 30; choice++) {
            Check.is("38: choice", x.walk(0), 1);
        }
        Check.fails("38: the 31st", Check.STATE, () -> x.walk(0));
        Check.fails("38: the 31st, and no such edge", Check.STATE, () -> x.walk(5));
        Check.is("41: behind 30", x.lastOnWalk(1), 0);
        Check.is("39: 30", x.clearWalk(), 30);
        Check.is("38: again", x.walk(0), 1);
    }

    private static void onWalk() {
        SsaRepair x = Check.graph(3, "a:d0d0>b", "b:u1d1>bc", "c:u1d0d1");
        Check.is("41: nothing before block 0", x.lastOnWalk(0), 2000);
        Check.is("42: nothing", x.mergesOnWalk(1), 0);
        x.walk(0);
        Check.is("41: last of a", x.lastOnWalk(0), 1);
        Check.is("41: not of b itself", x.lastOnWalk(1), 2000);
        Check.is("42: once", x.mergesOnWalk(1), 1);
        x.walk(0);
        Check.is("41: b passed", x.lastOnWalk(1), 11);
        Check.is("42: twice", x.mergesOnWalk(1), 2);
        x.walk(1);
        Check.is("41: not of c", x.lastOnWalk(0), 1);
        Check.is("41: of b", x.lastOnWalk(1), 11);
        Check.is("42: c is none", x.mergesOnWalk(1), 2);
        Check.is("42: of another", x.mergesOnWalk(0), 0);
        Check.is("41: of 3", x.lastOnWalk(3), 2000);
        for (int variable : new int[] {-1, 4, Integer.MAX_VALUE, Integer.MIN_VALUE}) {
            Check.fails("41: " + variable, Check.INDEX, () -> x.lastOnWalk(variable));
            Check.fails("42: " + variable, Check.INDEX, () -> x.mergesOnWalk(variable));
        }
    }

    private static void walks() {
        SsaRepair x = Check.graph(5, "a:>bcd", "b:>bcd", "c:>bcd", "d:>bcd", "e:>b");
        Check.is("43: none at a", x.walks(0, 0), 1L);
        Check.is("43: none at b", x.walks(1, 0), 0L);
        Check.is("43: never back to a", x.walks(0, 5), 0L);
        Check.is("43: one", x.walks(1, 1), 1L);
        Check.is("43: 30", x.walks(2, 30), 68630377364883L);
        Check.is("43: unreachable", x.walks(4, 3), 0L);
        Check.is("43: unreachable, none", x.walks(4, 0), 0L);
        Check.is("43: again", x.walks(1, 2), 3L);
        Check.is("43: walk is left alone", x.clearWalk(), 0);
        Check.fails("43: -1", Check.ARGUMENT, () -> x.walks(0, -1));
        Check.fails("43: 31", Check.ARGUMENT, () -> x.walks(0, 31));
        Check.fails("43: block 5", Check.INDEX, () -> x.walks(5, 0));
        Check.fails("43: block -1 and 31", Check.INDEX, () -> x.walks(-1, 31));
    }

    private static void density() {
        SsaRepair x = Check.graph(5, "a:>bc", "b:d0d1>d", "c:>d", "d:u0u1", "e:>d");
        Check.is("44: two by 16", x.mergeDensity(), 0.125);
        x.addEdge(2, 4);
        Check.is("44: two by 20", x.mergeDensity(), 2.0 / 20.0);
        x.removeAction(3, 0);
        Check.is("44: one by 20", x.mergeDensity(), 0.05);
        Check.is("44: none", new SsaRepair().mergeDensity(), 0.0);
        SsaRepair thirds = Check.graph(3, "a:>bc", "b:d0>c", "c:u0");
        Check.is("44: one by 12", thirds.mergeDensity(), 1.0 / 12.0);
    }

    private static void saving() {
        SsaRepair x = new SsaRepair();
        Check.fails("46: nothing saved", Check.STATE, x::restore);
        x.reset(3);
        Check.define(x, "a:u0d1>bc");
        Check.is("45: answer", x.save(), 3);
        Check.is("45: changes stay", x.undo(), 0);
        x.reset(5);
        Check.define(x, "a:>e");
        x.walk(0);
        Check.type(x, "b:");
        Check.is("46: answer", x.restore(), 3);
        Check.is("46: graph", Check.show(x), "a:u0d1>bc b: c:");
        Check.is("46: blocks", x.blockCount(), 3);
        Check.is("46: dominators follow", x.parent(2), 0);
        Check.is("46: walk is empty", x.clearWalk(), 0);
        Check.is("46: input stays", x.append('d'), 3);
        Check.fails("46: changes are forgotten", Check.MISSING, x::undo);
        x.removeAction(0, 0);
        Check.is("46: stays saved", x.restore(), 3);
        Check.is("46: as it was", Check.show(x), "a:u0d1>bc b: c:");
        x.addEdge(1, 1);
        Check.is("45: again", x.save(), 3);
        x.reset(1);
        x.restore();
        Check.is("45: replaced", Check.show(x), "a:u0d1>bc b:>b c:");
        x.reset(14);
        Check.is("45: 14", x.save(), 14);
    }
}
