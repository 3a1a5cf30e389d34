import java.util.function.Consumer;
import java.util.function.Function;
import java.util.function.ObjIntConsumer;
import java.util.function.Supplier;

/** Objects in rich states, and whether a call left all of such a state alone. */
final class State {
    /** 6 blocks, f unreachable, d a merge of 0; 8 of 10 changes, 3 choices, a cut line, an error, a saved graph. */
    static final Supplier<SsaRepair> RICH = State::rich;
    /** As RICH, with 14 blocks, 3 edges and 6 actions in b and n, 30 choices and 30 characters. */
    static final Supplier<SsaRepair> FULL = State::full;
    /** One block, and nothing typed, kept, changed, walked or saved. */
    static final Supplier<SsaRepair> FRESH = SsaRepair::new;

    private State() {
    }

    private static SsaRepair rich() {
        SsaRepair x = Check.graph(14, "b:d0d1d2d3u0u1>bcd", "g:u0u1>bc", "n:d0d1d2d3u0u1>bcn");
        x.reset(6);
        for (String line : new String[] {"a:d0>bc", "b:>d", "c:>d", "d:u0>e", "e:u0d1", "f:d0>d"}) {
            Check.define(x, line);
        }
        Check.type(x, "b:d9");
        Check.answer(x::define);
        x.save();
        x.addEdge(4, 3);
        Check.define(x, "c:d2u2>d");
        x.removeAction(2, 1);
        Check.define(x, "b:d0>d");
        for (int choice = 0; choice < 3; choice++) {
            x.walk(0);
        }
        Check.type(x, "b:u");
        return x;
    }

    private static SsaRepair full() {
        SsaRepair x = Check.graph(14, "a:>b", "b:d0u0d1u1d2u2>bcd", "n:u3d3u3d3u3d3>nmb");
        Check.answer(x::define);
        x.save();
        x.removeAction(1, x.addEdge(2, 3));
        x.undo();
        for (int choice = 0; choice < 30; choice++) {
            x.walk(0);
        }
        Check.type(x, "b:d0".repeat(7) + "b:");
        return x;
    }

    /** The call throws, and the object is as one that was never asked. */
    static void refused(String what, Class<?> due, Supplier<SsaRepair> made, Consumer<SsaRepair> call) {
        untouched(what, "throws." + due.getSimpleName(), made, call);
    }

    /** As refused, for each number that is not 0 to count - 1. */
    static void refusedOutside(String what, int count, Class<?> due, Supplier<SsaRepair> made,
            ObjIntConsumer<SsaRepair> call) {
        for (int number : Check.outside(count)) {
            refused(what + " " + number, due, made, x -> call.accept(x, number));
        }
    }

    /** The call answers, and the object is as one that was never asked. */
    static void asked(String what, Supplier<SsaRepair> made, Consumer<SsaRepair> call) {
        untouched(what, "nothing thrown", made, call);
    }

    /** A look uses up what it looks at, and an object has 512 calls, so each look has objects of its own. */
    private static void untouched(String what, String due, Supplier<SsaRepair> made, Consumer<SsaRepair> call) {
        look(what, due, made, call, State::graph);
        look(what, due, made, call, State::sources);
        look(what, due, made, call, State::reportAndWalk);
        look(what, due, made, call, State::input);
        look(what, due, made, call, State::changes);
        look(what, due, made, call, State::saved);
    }

    private static void look(String what, String due, Supplier<SsaRepair> made, Consumer<SsaRepair> call,
            Function<SsaRepair, String> view) {
        SsaRepair touched = made.get();
        Check.is(what, Check.answer(() -> {
            call.accept(touched);
            return "nothing thrown";
        }), due);
        Check.is(what + " leaves the state alone, which", view.apply(touched), view.apply(made.get()));
    }

    static String graph(SsaRepair x) {
        StringBuilder text = new StringBuilder("graph ").append(Check.show(x));
        for (int block = 0; block < x.blockCount(); block++) {
            int at = block;
            text.append(' ').append(x.isReachable(block)).append(Check.answer(() -> x.predecessors(at)))
                    .append(Check.answer(() -> x.parent(at))).append(Check.answer(() -> x.frontier(at)));
        }
        return text.toString();
    }

    static String sources(SsaRepair x) {
        StringBuilder text = new StringBuilder("sources ").append(x.unneeded()).append(' ').append(x.mergeDensity());
        for (int variable = 0; variable < 4; variable++) {
            text.append(' ').append(x.minimalMerges(variable)).append(' ').append(x.merges(variable));
            for (int block = 0; block < x.blockCount(); block++) {
                int at = block;
                int of = variable;
                text.append(' ').append(Check.answer(() -> x.source(at, of, true)))
                        .append(' ').append(Check.answer(() -> x.reachingCount(at, of)));
            }
        }
        return text.toString();
    }

    static String reportAndWalk(SsaRepair x) {
        StringBuilder text = new StringBuilder("report ").append(x.addedMerges()).append(' ')
                .append(x.removedMerges()).append(' ').append(x.changedUses()).append(' ').append(x.newlyReachable());
        text.append(" walk ").append(x.walkEnd());
        for (int variable = 0; variable < 4; variable++) {
            text.append(' ').append(x.lastOnWalk(variable)).append(' ').append(x.mergesOnWalk(variable));
        }
        return text.append(" of ").append(x.clearWalk()).toString();
    }

    static String input(SsaRepair x) {
        StringBuilder text = new StringBuilder("error ").append(Check.answer(x::errorPosition));
        text.append(" input ").append(Check.answer(() -> x.append('0'))).append(' ').append(Check.answer(x::define));
        return text.append(' ').append(Check.answer(x::errorPosition)).append(' ').append(Check.show(x)).toString();
    }

    static String changes(SsaRepair x) {
        StringBuilder text = new StringBuilder("changes");
        for (int change = 0; change < 9; change++) {
            text.append(' ').append(Check.answer(x::undo)).append(' ').append(change % 2 == 0 ? Check.show(x) : "");
        }
        return text.toString();
    }

    static String saved(SsaRepair x) {
        return "saved " + Check.answer(x::restore) + ' ' + Check.show(x);
    }
}
