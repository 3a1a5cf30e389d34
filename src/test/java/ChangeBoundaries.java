import java.util.function.Consumer;
import java.util.function.Supplier;
import java.util.function.ToIntFunction;

/** The sentences of promises 33 to 46: reports of changes, undo, walks and saving. */
final class ChangeBoundaries {
    private static final Supplier<SsaRepair> RICH = State.RICH;
    private static final Supplier<SsaRepair> FULL = State.FULL;
    private static final Supplier<SsaRepair> FRESH = State.FRESH;
    private static final String NO_VARIABLE = "Throws `IndexOutOfBoundsException` if there is no such variable";

    private ChangeBoundaries() {
    }

    static void test() {
        addedMerges();
        removedMerges();
        changedUses();
        changedUsesByNumber();
        newlyReachable();
        undo();
        walk();
        clearWalk();
        walkEnd();
        lastOnWalk();
        mergesOnWalk();
        walks();
        mergeDensity();
        save();
        restore();
    }

    /** The last change, an edge from c to d, makes d a merge of 0 to 3, which it uses. */
    private static SsaRepair diamond() {
        SsaRepair x = Check.graph(4, "a:>bc", "b:d0d1d2d3>d", "c:", "d:u0u1u2u3");
        x.addEdge(2, 3);
        return x;
    }

    /** All ways to an empty report, from an object whose report was not empty when it was asked for before. */
    private static void empty(Supplier<SsaRepair> made, ToIntFunction<SsaRepair> report, int before) {
        Check.is("new object", report.applyAsInt(new SsaRepair()), 0);
        emptied("all undone", made, report, before, x -> undoUpTo(x, 8));
        emptied("reset", made, report, before, x -> x.reset(4));
        emptied("restored", made, report, before, x -> {
            x.save();
            x.restore();
        });
        emptied("not remembered", made, report, before, x -> {
            for (int change = 0; change < 8; change++) {
                Check.define(x, "a:");
            }
            undoUpTo(x, 8);
        });
    }

    private static void emptied(String what, Supplier<SsaRepair> made, ToIntFunction<SsaRepair> report, int before,
            Consumer<SsaRepair> way) {
        SsaRepair x = made.get();
        Check.is("before: " + what, report.applyAsInt(x), before);
        way.accept(x);
        Check.is(what, report.applyAsInt(x), 0);
    }

    private static void undoUpTo(SsaRepair x, int most) {
        for (int change = 0; change < most; change++) {
            Check.answer(x::undo);
        }
    }

    private static void addedMerges() {
        Doc.promise(33);
        Doc.says("Returns the number of pairs of a variable and a block that is a merge of it, but was not before the "
                + "change: it did not exist, or was not a merge then.");
        SsaRepair x = diamond();
        Check.is("four variables", x.addedMerges(), 4);
        x.addEdge(3, 2);
        Check.is("the block c for each, d was one", x.addedMerges(), 4);
        x.removeEdge(3, 2);
        Check.is("removed ones do not count", x.addedMerges(), 0);
        // A block that threading made has one predecessor, so it becomes a merge by a later change alone.
        SsaRepair y = Check.graph(13, "a:>b", "b:u0d0>bc");
        y.thread(0, 1, 2);
        Check.is("a new block is none at first", y.addedMerges(), 0);
        y.addEdge(13, 13);
        Check.is("a new block becomes one", y.addedMerges(), 1);
        Doc.says("Returns the number of pairs, 0 if the report is empty.");
        empty(ChangeBoundaries::diamond, SsaRepair::addedMerges, 4);
    }

    private static void removedMerges() {
        Doc.promise(34);
        Doc.says("Returns the number of pairs of a variable and a block that was a merge of it before the change, "
                + "but is not now.");
        SsaRepair x = diamond();
        Check.is("added ones do not count", x.removedMerges(), 0);
        x.removeAction(3, 0);
        Check.is("one is no longer live", x.removedMerges(), 1);
        x.removeEdge(0, 1);
        Check.is("the other three", x.removedMerges(), 3);
        x.undo();
        x.removeEdge(0, 2);
        Check.is("the other three, by another edge", x.removedMerges(), 3);
        x.undo();
        Check.define(x, "a:");
        Check.is("the blocks can't be reached any more", x.removedMerges(), 3);
        Doc.says("Returns the number of pairs, 0 if the report is empty.");
        empty(() -> {
            SsaRepair made = diamond();
            made.removeEdge(2, 3);
            return made;
        }, SsaRepair::removedMerges, 4);
    }

    private static void changedUses() {
        Doc.promise(35);
        Doc.says("Returns the number of uses whose source has changed.");
        SsaRepair x = diamond();
        Check.is("four", x.changedUses(), 4);
        x.addEdge(3, 3);
        Check.is("the merges stay", x.changedUses(), 0);
        Check.define(x, "b:d0d1d2>d");
        Check.is("one", x.changedUses(), 1);
        SsaRepair most = Check.graph(14, "b:u0u0u0u0u0u0>c", "c:u0u0u0u0u0u0>n", "n:u0u0u0u0u0u0", "a:>b", "a:d0>b");
        Check.is("all", most.changedUses(), 18);
        Doc.says("Returns the number of uses, 0 if the report is empty.");
        empty(ChangeBoundaries::diamond, SsaRepair::changedUses, 4);
    }

    private static void changedUsesByNumber() {
        Doc.promise(35);
        Doc.says("These are uses in reachable blocks that were reachable before the change as well and had a use of the "
                + "same variable as the action with the same number, with another source.");
        SsaRepair x = Check.graph(3, "a:d0>b", "b:u0u0", "c:u0");
        x.removeEdge(0, 1);
        Check.is("no longer reachable", x.changedUses(), 0);
        x.addEdge(0, 1);
        Check.is("not reachable before", x.changedUses(), 0);
        x.removeAction(0, 0);
        Check.is("both, not that of the unreachable c", x.changedUses(), 2);
        Check.define(x, "b:u0u0u0");
        Check.is("a further use had no number before", x.changedUses(), 0);
        Check.define(x, "b:u0d0u0");
        Check.is("of those with a number alike, the third", x.changedUses(), 1);
        Check.define(x, "b:u0u0u1");
        Check.is("another action, another variable", x.changedUses(), 0);
        SsaRepair entry = Check.graph(1, "a:d0d1u0", "a:d1d0u0");
        Check.is("a use in block 0", entry.changedUses(), 1);
        SsaRepair fewer = Check.graph(2, "a:>b", "b:d0u0u0");
        fewer.removeAction(1, 0);
        Check.is("the second, not the third that is no more", fewer.changedUses(), 1);
        Check.define(fewer, "b:d0u0u0");
        Check.is("the second, not the third that was not", fewer.changedUses(), 1);
        SsaRepair moved = Check.graph(2, "a:d1d0>b", "b:u0");
        moved.removeAction(0, 0);
        Check.is("the definition has another number", moved.changedUses(), 1);
        SsaRepair threaded = Check.graph(3, "a:>b", "b:d0>c", "c:u0u1");
        threaded.thread(0, 1, 2);
        Check.is("the copy of a definition is another one", threaded.changedUses(), 1);
    }

    private static void newlyReachable() {
        Doc.promise(36);
        Doc.says("Returns the blocks that are reachable now but were not before the change, because they did not exist "
                + "or could not be reached.");
        SsaRepair x = Check.graph(12, "b:>cd", "c:>l", "a:>b");
        Check.is("could not be reached", x.newlyReachable(), Check.set(1, 2, 3, 11));
        x.thread(0, 1, 2);
        Check.is("did not exist", x.newlyReachable(), Check.set(12));
        x.thread(0, 12, 2);
        Check.is("the last one", x.newlyReachable(), Check.set(13));
        x.removeEdge(0, 13);
        Check.is("those that can't be reached any more do not count", x.newlyReachable(), 0);
        SsaRepair away = Check.graph(4, "b:>c", "c:>d");
        away.thread(1, 2, 3);
        Check.is("a new block that can't be reached", away.newlyReachable(), 0);
        Doc.says("Returns the set of blocks, empty if the report is empty.");
        empty(() -> Check.graph(2, "a:>b"), SsaRepair::newlyReachable, Check.set(1));
    }

    private static void undo() {
        Doc.promise(37);
        Doc.says("Undoes the latest change.", "Returns the number of changes that are still remembered.");
        SsaRepair x = Check.graph(12);
        for (int change = 1; change <= 9; change++) {
            x.addEdge(change, 11);
        }
        for (int left = 7; left >= 0; left--) {
            Check.is("left", x.undo(), left);
            Check.is("the edge", x.edgeCount(left + 2), 0);
            Check.is("the edge before", x.edgeCount(left + 1), 1);
        }
        Doc.says("Throws `NoSuchElementException` if no change is remembered");
        Check.fails("the ninth", Check.MISSING, x::undo);
        Check.is("graph", Check.show(x), "a: b:>l c: d: e: f: g: h: i: j: k: l:");
        State.refused("new object", Check.MISSING, FRESH, SsaRepair::undo);
        State.refused("after reset", Check.MISSING, () -> {
            SsaRepair made = RICH.get();
            made.reset(5);
            return made;
        }, SsaRepair::undo);
        State.refused("after restore", Check.MISSING, () -> {
            SsaRepair made = RICH.get();
            made.restore();
            made.walk(0);
            return made;
        }, SsaRepair::undo);
    }

    private static void walk() {
        Doc.promise(38);
        Doc.says("Adds a choice to the walk.", "Returns the block to which the walk comes.");
        SsaRepair x = Check.graph(14, "a:>bcn", "n:>mbn", "c:>c");
        Check.is("third edge", x.walk(2), 13);
        Check.is("third edge again", x.walk(2), 13);
        Check.is("first edge", x.walk(0), 12);
        Check.is("three choices", x.clearWalk(), 3);
        Check.is("second edge", x.walk(1), 2);
        Doc.says("Throws `IllegalStateException` if the walk has 30 choices");
        State.refused("the 31st", Check.STATE, FULL, y -> y.walk(0));
        State.refused("the 31st, second edge", Check.STATE, FULL, y -> y.walk(1));
        State.refusedOutside("the 31st, and no edge", 3, Check.STATE, FULL, (y, edge) -> y.walk(edge));
        for (int choice = 2; choice <= 30; choice++) {
            Check.is("choice " + choice, x.walk(0), 2);
        }
        Check.fails("the 31st after 30", Check.STATE, () -> x.walk(0));
        Doc.says("Throws `NoSuchElementException` if the block where the walk has come to has no such edge");
        State.refusedOutside("edge of one", 1, Check.MISSING, RICH, (y, edge) -> y.walk(edge));
        State.refusedOutside("edge of none", 0, Check.MISSING, FRESH, (y, edge) -> y.walk(edge));
        State.refused("an edge of block 0 alone", Check.MISSING, RICH, y -> y.walk(1));
        State.refusedOutside("edge of three", 3, Check.MISSING, () -> {
            SsaRepair made = FULL.get();
            made.clearWalk();
            made.walk(0);
            return made;
        }, (y, edge) -> y.walk(edge));
    }

    private static void clearWalk() {
        Doc.promise(39);
        Doc.says("Empties the walk.", "Returns the number of choices that it had.");
        SsaRepair x = FULL.get();
        Check.is("30", x.clearWalk(), 30);
        Check.is("empty", x.walkEnd(), 0);
        Check.is("none", x.clearWalk(), 0);
        x.walk(0);
        Check.is("one", x.clearWalk(), 1);
        Check.is("new object", new SsaRepair().clearWalk(), 0);
        SsaRepair rich = RICH.get();
        rich.clearWalk();
        Check.is("graph stays", Check.show(rich), Check.show(RICH.get()));
        Check.is("changes stay", State.changes(rich), State.changes(RICH.get()));
    }

    private static void walkEnd() {
        Doc.promise(40);
        Doc.says("Returns the block where the walk has come to.", "Returns the block.");
        Check.is("new object", new SsaRepair().walkEnd(), 0);
        Check.is("three choices", RICH.get().walkEnd(), 4);
        Check.is("30 choices", FULL.get().walkEnd(), 1);
        SsaRepair x = Check.graph(14, "a:>n");
        Check.is("no choice", x.walkEnd(), 0);
        x.walk(0);
        Check.is("the last block", x.walkEnd(), 13);
    }

    private static void lastOnWalk() {
        Doc.promise(41);
        Doc.says("Returns the last definition of a variable on the walk, in the blocks before the one where it has come "
                + "to; a block counts as often as the walk passes through it.");
        SsaRepair x = Check.graph(14, "a:d0d0>n", "n:u3u3u3d1u3d3>mn", "m:d1>n");
        x.walk(0);
        Check.is("the last of block 0", x.lastOnWalk(0), 1);
        Check.is("not in the block where it has come to", x.lastOnWalk(3), 2000);
        x.walk(0);
        Check.is("in the block before", x.lastOnWalk(3), 135);
        Check.is("not that of m", x.lastOnWalk(1), 133);
        x.walk(0);
        Check.is("not that of n, passed once", x.lastOnWalk(1), 120);
        x.walk(1);
        Check.is("n, passed twice", x.lastOnWalk(1), 133);
        Check.is("still that of block 0", x.lastOnWalk(0), 1);
        Check.is("behind 30 choices", FULL.get().lastOnWalk(0), 10);
        Doc.says("Returns the number of the definition as a source, or 2000 if there is none.");
        Check.is("none on the walk", x.lastOnWalk(2), 2000);
        x.clearWalk();
        Check.is("empty walk", x.lastOnWalk(0), 2000);
        Check.is("new object", new SsaRepair().lastOnWalk(3), 2000);
        x.walk(0);
        Check.is("definition", x.lastOnWalk(0), 1);
        Doc.says(NO_VARIABLE);
        State.refusedOutside("variable", 4, Check.INDEX, RICH, SsaRepair::lastOnWalk);
        State.refusedOutside("variable, empty walk", 4, Check.INDEX, FRESH, SsaRepair::lastOnWalk);
        State.refusedOutside("variable, 30 choices", 4, Check.INDEX, FULL, SsaRepair::lastOnWalk);
    }

    private static void mergesOnWalk() {
        Doc.promise(42);
        Doc.says("Returns how often the walk comes to a merge of a variable, where its first block counts as well.",
                "Returns the number.");
        SsaRepair x = Check.graph(2, "a:d0>b", "b:u0d0d1>b");
        Check.is("empty walk", x.mergesOnWalk(0), 0);
        for (int choice = 1; choice <= 30; choice++) {
            x.walk(0);
            Check.is("comes to b", x.mergesOnWalk(0), choice);
        }
        Check.is("a minimal merge that is not live", x.mergesOnWalk(1), 0);
        Check.is("no definition", x.mergesOnWalk(3), 0);
        Check.is("new object", new SsaRepair().mergesOnWalk(0), 0);
        Doc.says(NO_VARIABLE);
        State.refusedOutside("variable", 4, Check.INDEX, RICH, SsaRepair::mergesOnWalk);
        State.refusedOutside("variable, empty walk", 4, Check.INDEX, FRESH, SsaRepair::mergesOnWalk);
        State.refusedOutside("variable, 30 choices", 4, Check.INDEX, FULL, SsaRepair::mergesOnWalk);
    }

    private static void walks() {
        Doc.promise(43);
        SsaRepair x = Check.graph(14, "a:>bcd", "b:>bcd", "c:>bcd", "d:>bcd", "m:>n", "n:>nm");
        Doc.says("Returns the number of walks with a given number of choices that come to a block, as a long.",
                "Returns the number of walks.");
        long due = 1;
        for (int choices = 1; choices <= 30; choices++) {
            Check.is(choices + " choices", x.walks(2, choices), due);
            due *= 3;
        }
        Check.is("never back to block 0", x.walks(0, 30), 0L);
        Check.is("an unreachable block", x.walks(13, 30), 0L);
        Doc.says("- `choices`: the number of choices, 0 to 30");
        Check.is("0 at block 0", x.walks(0, 0), 1L);
        Check.is("0 at another block", x.walks(1, 0), 0L);
        Check.is("30", x.walks(3, 30), 68630377364883L);
        Check.is("30 in a new object", new SsaRepair().walks(0, 30), 0L);
        Check.is("0 in a new object", new SsaRepair().walks(0, 0), 1L);
        Doc.says("Throws `IndexOutOfBoundsException` if there is no such block");
        State.refusedOutside("block", 6, Check.INDEX, RICH, (y, block) -> y.walks(block, 0));
        State.refusedOutside("block of 14", 14, Check.INDEX, FULL, (y, block) -> y.walks(block, 30));
        State.refusedOutside("block, and 31 choices", 6, Check.INDEX, RICH, (y, block) -> y.walks(block, 31));
        State.refusedOutside("block, and -1 choices", 6, Check.INDEX, RICH, (y, block) -> y.walks(block, -1));
        Doc.says("Throws `IllegalArgumentException` if choices is out of range");
        for (int choices : Check.outside(31)) {
            State.refused(choices + " choices", Check.ARGUMENT, RICH, y -> y.walks(0, choices));
            State.refused(choices + " choices, unreachable", Check.ARGUMENT, FULL, y -> y.walks(13, choices));
        }
    }

    private static void mergeDensity() {
        Doc.promise(44);
        Doc.says("Returns the average number of merges per variable and reachable block: the number of merges of all "
                + "variables divided by 4 times the number of reachable blocks, both converted to double.",
                "Returns the average.");
        Check.is("new object", new SsaRepair().mergeDensity(), 0.0);
        Check.is("one by 4 times 5, without the unreachable block", RICH.get().mergeDensity(), 1.0 / 20.0);
        SsaRepair x = Check.graph(14, "a:d0d1d2d3>b", "b:u0u1u2u3d0d1>b");
        Check.is("two by 4 times 2", x.mergeDensity(), 0.25);
        Check.define(x, "b:u0d0>b");
        Check.is("one by 4 times 2", x.mergeDensity(), 0.125);
        Check.define(x, "a:>bc");
        Check.is("one by 4 times 3 is no short binary fraction", x.mergeDensity(), 1.0 / 12.0);
    }

    private static void save() {
        Doc.promise(45);
        Doc.says("Saves the graph.", "Returns the number of blocks.");
        SsaRepair one = new SsaRepair();
        Check.is("new object", one.save(), 1);
        one.reset(14);
        Check.is("restored", one.restore(), 1);
        Check.is("14 blocks", FULL.get().save(), 14);
        SsaRepair x = RICH.get();
        SsaRepair same = RICH.get();
        Check.is("6 blocks", x.save(), 6);
        Check.is("report and walk stay", State.reportAndWalk(x), State.reportAndWalk(same));
        Check.is("input and error stay", State.input(x), State.input(same));
        Check.is("changes stay", State.changes(x), State.changes(same));
        Check.is("saved before the changes were undone", x.restore(), 6);
        Check.is("graph", Check.show(x), Check.show(RICH.get()));
        Doc.says("What was saved before is replaced.");
        SsaRepair twice = FULL.get();
        twice.save();
        twice.reset(2);
        Check.is("fewer blocks", twice.save(), 2);
        twice.reset(14);
        twice.restore();
        Check.is("only the later one", Check.show(twice), "a: b:");
    }

    private static void restore() {
        Doc.promise(46);
        Doc.says("Restores the graph that was saved.", "Returns the number of blocks.");
        SsaRepair x = RICH.get();
        Check.is("answer", x.restore(), 6);
        Check.is("graph", Check.show(x), "a:d0>bc b:>d c:>d d:u0>e e:u0d1 f:d0>d");
        Check.is("merges follow", x.mergeCount(), 0);
        SsaRepair full = FULL.get();
        full.save();
        String before = State.graph(full);
        full.reset(1);
        Check.is("14 after 1", full.restore(), 14);
        Check.is("all of it", State.graph(full), before);
        Doc.says("It stays saved.");
        x.removeEdge(0, 1);
        Check.is("after a change", x.restore(), 6);
        Check.is("not changed by it", Check.show(x), "a:d0>bc b:>d c:>d d:u0>e e:u0d1 f:d0>d");
        x.reset(1);
        Check.is("after reset", x.restore(), 6);
        Doc.says("Throws `IllegalStateException` if nothing was saved");
        State.refused("new object", Check.STATE, FRESH, SsaRepair::restore);
        State.refused("with changes", Check.STATE, () -> {
            SsaRepair made = Check.graph(3, "a:u0>b", "b:d0>c");
            made.walk(0);
            return made;
        }, SsaRepair::restore);
    }
}
