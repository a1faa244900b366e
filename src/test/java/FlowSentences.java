/** The sentences of the promises 9 to 15, on cheapest flows. */
final class FlowSentences {
    private static final Class<IndexOutOfBoundsException> NO_SUCH = IndexOutOfBoundsException.class;
    private static final int NONE = ConvexConduit.NONE;

    private FlowSentences() {
    }

    static void test(Sentences s) {
        most(s);
        cost(s);
        costByCircles(s);
        more(s);
        moreIsNone(s);
        flow(s);
        leastOn(s);
        mostOn(s);
    }

    private static ConvexConduit of(int nodes, int[]... arcs) {
        ConvexConduit x = new ConvexConduit(nodes);
        for (int[] arc : arcs) {
            x.arc(arc[0], arc[1], arc[2], arc[3]);
        }
        return x;
    }

    private static int[] arc(int... arc) {
        return arc;
    }

    /** Twelve arcs over six steps, two beside each other at each, with up to 30 units at the highest price. */
    private static ConvexConduit dearest() {
        ConvexConduit x = new ConvexConduit(8);
        for (int arc = 0; arc < 12; arc++) {
            x.arc(arc / 2, arc / 2 + 1, 5, 99);
            x.piece(arc, 5, 99);
            x.piece(arc, 5, 99);
        }
        return x;
    }

    /** All twelve arcs with all their 15 units from 0 to 1. */
    private static ConvexConduit widest() {
        ConvexConduit x = new ConvexConduit(2);
        for (int arc = 0; arc < 12; arc++) {
            x.arc(0, 1, 5, 0);
            x.piece(arc, 5, 1);
            x.piece(arc, 5, 2);
        }
        return x;
    }

    /** The ways that come first, by the fewest arcs or the lowest numbers, have to be left again: 2 go for 6. */
    private static ConvexConduit turned() {
        return of(4, arc(0, 1, 2, 9), arc(0, 2, 2, 1), arc(2, 3, 1, 0), arc(3, 1, 1, 1), arc(2, 1, 1, 3));
    }

    private static void most(Sentences s) {
        s.section("Promise 9: most");
        s.says("Returns the greatest amount with which the demand could be met", () -> {
            s.due("without arcs", new ConvexConduit(8).most(), 0);
            s.due("the narrowest arc of a way", of(3, arc(0, 2, 5, 1), arc(2, 1, 3, 1)).most(), 3);
            s.due("one arc", Networks.oneArc(5, 9, 9, 9).most(), 15);
            ConvexConduit x = of(4, arc(0, 2, 1, 0), arc(2, 3, 1, 0), arc(3, 1, 1, 0), arc(0, 3, 1, 9),
                arc(2, 1, 1, 9));
            s.due("a way left again", x.most(), 2);
            for (int amount = 0; amount <= 20; amount++) {
                x.demand(0, 1, amount);
                s.due("whatever the amount", x.most(), 2);
                s.due("as the cost says", x.cost() == NONE ? 0 : 1, amount <= 2 ? 1 : 0);
            }
        });
        s.says(", with its source and target,", () -> {
            ConvexConduit x = of(3, arc(0, 1, 1, 1), arc(1, 2, 2, 1), arc(2, 0, 3, 1), arc(0, 2, 4, 1));
            int[][] due = {{0, 1, 1}, {0, 2, 5}, {1, 0, 2}, {1, 2, 2}, {2, 0, 3}, {2, 1, 1}};
            for (int[] pair : due) {
                x.demand(pair[0], pair[1], 7);
                s.due("from " + pair[0] + " to " + pair[1], x.most(), pair[2]);
            }
        });
        s.says("also above 20.", () -> {
            ConvexConduit x = Networks.oneArc(5, 1, 1, 1);
            x.arc(0, 1, 5, 1);
            s.due("20", x.most(), 20);
            x.arc(0, 1, 1, 1);
            s.due("21", x.most(), 21);
            s.due("180", widest().most(), 180);
            s.due("180 with a demand", Networks.demanding(widest(), 0, 1, 20).most(), 180);
            s.due("30 over all nodes", Networks.demanding(dearest(), 0, 6, 0).most(), 30);
        });
    }

    private static void cost(Sentences s) {
        s.section("Promise 10: cost");
        s.says("Returns the cost of the cheapest flows.", () -> {
            s.due("one of the cheap way", Networks.demanding(turned(), 0, 1, 1).cost(), 2);
            s.due("two", Networks.demanding(turned(), 0, 1, 2).cost(), 2 + 4);
            s.due("three", Networks.demanding(turned(), 0, 1, 3).cost(), 2 + 4 + 9);
            s.due("pieces beside pieces", Networks.demanding(widest(), 0, 1, 20).cost(), 0);
        });
        s.says("Returns the cost;", () -> {
            s.due("no amount", Networks.demanding(dearest(), 0, 6, 0).cost(), 0);
            s.due("at no price", Networks.demanding(Networks.oneArc(5, 0, 0, 0), 0, 1, 15).cost(), 0);
            s.due("as dear as can be", Networks.demanding(dearest(), 0, 6, 20).cost(), 20 * 6 * 99);
            s.due("over as many arcs as can be", Networks.demanding(Networks.chain(7), 0, 7, 15).cost(), 15 * 7 * 99);
        });
        s.says("NONE if the demand cannot be met.", () -> {
            s.due("no arcs", Networks.demanding(new ConvexConduit(2), 0, 1, 1).cost(), NONE);
            s.due("just met", Networks.demanding(turned(), 0, 1, 4).cost(), 2 + 4 + 9 + 9);
            s.due("one too many", Networks.demanding(turned(), 0, 1, 5).cost(), NONE);
            s.due("many too many", Networks.demanding(turned(), 0, 1, 20).cost(), NONE);
            s.due("against the arcs", Networks.demanding(turned(), 1, 0, 1).cost(), NONE);
            s.due("16 over 15 units", Networks.demanding(Networks.chain(7), 0, 7, 16).cost(), NONE);
        });
    }

    private static void costByCircles(Sentences s) {
        s.section("Promise 11: costByCircles");
        s.says("Returns the same, found by splitting arcs into units,", () -> {
            int[] due = {0, 4, 8, 15, 22, 34, 46};
            for (int amount = 0; amount < due.length; amount++) {
                ConvexConduit x = of(3, arc(0, 2, 2, 3), arc(2, 1, 2, 1));
                x.piece(0, 2, 5);
                x.piece(0, 2, 8);
                x.piece(1, 2, 2);
                x.piece(1, 2, 4);
                x.demand(0, 1, amount);
                s.due("of " + amount, x.costByCircles(), due[amount]);
            }
            for (int amount = 0; amount <= 20; amount++) {
                ConvexConduit x = Networks.oneArc(5, 1, 50, 99);
                x.arc(0, 1, 5, 0);
                x.piece(1, 5, 50);
                x.demand(0, 1, amount);
                s.due("the same of " + amount, x.costByCircles(), x.cost());
            }
        });
        s.says("and by taking circles out of a flow that can be made cheaper by them.", () -> {
            s.due("dear way first", Networks.demanding(turned(), 0, 1, 1).costByCircles(), 2);
            s.due("two", Networks.demanding(turned(), 0, 1, 2).costByCircles(), 2 + 4);
            s.due("three", Networks.demanding(turned(), 0, 1, 3).costByCircles(), 2 + 4 + 9);
            ConvexConduit x = new ConvexConduit(8);
            x.arc(0, 7, 5, 99);
            x.piece(0, 5, 99);
            for (int node = 0; node < 7; node++) {
                x.arc(node, node + 1, 4, 14);
            }
            x.demand(0, 7, 9);
            s.due("over all nodes", x.costByCircles(), 4 * 98 + 5 * 99);
            ConvexConduit y = new ConvexConduit(8);
            for (int node = 6; node >= 0; node--) {
                y.arc(node, node + 1, 4, 14);
            }
            y.arc(0, 7, 5, 99);
            y.demand(0, 7, 5);
            s.due("over all nodes, numbered from the end", y.costByCircles(), 4 * 98 + 99);
        });
        s.says("Returns the cost;", () -> {
            s.due("no amount", Networks.demanding(dearest(), 0, 6, 0).costByCircles(), 0);
            s.due("at no price", Networks.demanding(Networks.oneArc(5, 0, 0, 0), 0, 1, 15).costByCircles(), 0);
            s.due("as dear as can be", Networks.demanding(dearest(), 0, 6, 20).costByCircles(), 20 * 6 * 99);
            s.due("all arcs", Networks.demanding(Networks.chain(7), 0, 7, 15).costByCircles(), 15 * 7 * 99);
        });
        s.says("NONE if the demand cannot be met.", () -> {
            s.due("no arcs", Networks.demanding(new ConvexConduit(2), 0, 1, 1).costByCircles(), NONE);
            s.due("just met", Networks.demanding(turned(), 0, 1, 4).costByCircles(), 2 + 4 + 9 + 9);
            s.due("one too many", Networks.demanding(turned(), 0, 1, 5).costByCircles(), NONE);
            s.due("many too many", Networks.demanding(turned(), 0, 1, 20).costByCircles(), NONE);
            s.due("against the arcs", Networks.demanding(turned(), 1, 0, 1).costByCircles(), NONE);
            s.due("16 over 15 units", Networks.demanding(Networks.chain(7), 0, 7, 16).costByCircles(), NONE);
        });
    }

    private static void more(Sentences s) {
        s.section("Promise 12: more");
        s.says("Returns by how much the cost of the cheapest flows would become greater, if one unit more went from the"
            + " source to a node, besides the demand.", () -> {
                int[] due = {0, 20, 9, 20};
                for (int node = 0; node < 4; node++) {
                    s.due("of " + node, Networks.bent().more(node), due[node]);
                }
                // The unit to 2 leaves the demand the other way.
                ConvexConduit x = of(4, arc(0, 2, 1, 1), arc(2, 1, 1, 1), arc(0, 3, 1, 4), arc(3, 1, 1, 5));
                x.demand(0, 1, 1);
                s.due("the demand gives way", x.more(2), 1 + 4 + 5 - 2);
                s.due("beside the demand", x.more(3), 4);
                s.due("once more to the target", x.more(1), 9);
                x.demand(2, 1, 1);
                s.due("of another source", x.more(1), NONE);
                x.demand(3, 1, 0);
                s.due("of one more", x.more(1), 5);
                x.demand(0, 3, 1);
                s.due("of another target", x.more(1), 2);
                s.due("the target when full", x.more(3), NONE);
            });
        s.says("- `node`: a node", () -> {
            ConvexConduit x = Networks.chain(7);
            for (int node = 0; node < 8; node++) {
                s.due("of " + node, x.more(node), 99 * node);
            }
        });
        s.says("otherwise by how much", () -> {
            s.due("at no price", of(2, arc(0, 1, 1, 0)).more(1), 0);
            s.due("with no amount", of(2, arc(0, 1, 1, 7)).more(1), 7);
            s.due("into the last unit", Networks.demanding(Networks.oneArc(5, 1, 2, 3), 0, 1, 14).more(1), 3);
            s.due("into the next piece", Networks.demanding(Networks.oneArc(5, 1, 2, 3), 0, 1, 5).more(1), 2);
            s.due("just ahead of it", Networks.demanding(Networks.oneArc(5, 1, 2, 3), 0, 1, 4).more(1), 1);
            s.due("the 21st unit", Networks.demanding(dearest(), 0, 6, 20).more(6), 594);
            s.due("the 21st unit, to a node on the way", Networks.demanding(dearest(), 0, 6, 20).more(1), 99);
        });
        s.says(", 0 for the source.", () -> {
            s.due("without arcs", new ConvexConduit(2).more(0), 0);
            s.due("of a demand", Networks.bent().more(0), 0);
            s.due("when no unit more can go", Networks.demanding(Networks.bent(), 0, 1, 7).more(0), 0);
            s.due("another source", Networks.demanding(Networks.bent(), 2, 3, 1).more(2), 0);
        });
    }

    private static void moreIsNone(Sentences s) {
        s.says("Returns NONE if the demand", () -> {
            for (int node = 0; node < 4; node++) {
                s.due("just met, of " + node, Networks.demanding(Networks.bent(), 0, 1, 7).more(node) == NONE ? 1 : 0,
                    node == 1 || node == 3 ? 1 : 0);
                s.due("one too many, of " + node, Networks.demanding(Networks.bent(), 0, 1, 8).more(node), NONE);
                s.due("20, of " + node, Networks.demanding(Networks.bent(), 0, 1, 20).more(node), NONE);
            }
        });
        s.says(", or it with that, cannot be met;", () -> {
            s.due("the target when full", Networks.demanding(Networks.bent(), 0, 1, 7).more(1), NONE);
            s.due("beyond it", Networks.demanding(Networks.bent(), 0, 1, 7).more(3), NONE);
            s.due("no way to a node", new ConvexConduit(3).more(2), NONE);
            s.due("no way against an arc", of(3, arc(0, 1, 1, 0), arc(2, 1, 1, 0)).more(2), NONE);
            // Each alone can go over the one unit to 2, both together cannot.
            ConvexConduit x = of(3, arc(0, 2, 1, 1), arc(2, 1, 1, 1));
            s.due("alone", x.more(2), 1);
            x.demand(0, 1, 1);
            s.due("with the demand", x.more(2), NONE);
        });
        s.says("Throws `IndexOutOfBoundsException` if there is no such node", () -> {
            for (int node : Networks.outside(0, 3)) {
                s.refuses("node " + node, NO_SUCH, Networks::bent, x -> x.more(node));
                s.refuses("not met, node " + node, NO_SUCH, FlowSentences::notMet, x -> x.more(node));
            }
            for (int node : Networks.outside(0, 7)) {
                s.refuses("of 8, node " + node, NO_SUCH, () -> new ConvexConduit(8), x -> x.more(node));
            }
        });
    }

    private static ConvexConduit notMet() {
        return Networks.demanding(Networks.bent(), 0, 1, 8);
    }

    private static void noSuchArc(Sentences s, java.util.function.ToIntBiFunction<ConvexConduit, Integer> call) {
        for (int arc : Networks.outside(0, 3)) {
            s.refuses("arc " + arc, NO_SUCH, Networks::bent, x -> call.applyAsInt(x, arc));
            s.refuses("not met, arc " + arc, NO_SUCH, FlowSentences::notMet, x -> call.applyAsInt(x, arc));
        }
        for (int arc : Networks.outside(0, 11)) {
            s.refuses("of 12, arc " + arc, NO_SUCH, Networks::full, x -> call.applyAsInt(x, arc));
        }
        s.refuses("none at all", NO_SUCH, () -> new ConvexConduit(2), x -> call.applyAsInt(x, 0));
    }

    private static void flow(Sentences s) {
        s.section("Promise 13: flow");
        s.says("Returns the amount on an arc in the chosen flow.", () -> {
            ConvexConduit x = of(4, arc(0, 1, 2, 5), arc(0, 2, 3, 2), arc(2, 1, 3, 3), arc(0, 1, 2, 5));
            int[][] due = {{0, 0, 0, 0}, {0, 0, 0, 1}, {0, 0, 0, 2}, {0, 1, 1, 2}, {0, 2, 2, 2}, {0, 3, 3, 2},
                {1, 3, 3, 2}, {2, 3, 3, 2}};
            for (int amount = 0; amount < due.length; amount++) {
                x.demand(0, 1, amount);
                s.same("of " + amount, Networks.flows(x), due[amount]);
            }
        });
        s.says("- `arc`: its number", () -> {
            ConvexConduit x = Networks.demanding(Networks.full(), 0, 2, 6);
            s.due("the first of 12", x.flow(0), 1);
            s.due("the last of 12", x.flow(11), 1);
        });
        s.says("Returns the amount;", () -> {
            s.due("nothing", Networks.demanding(widest(), 0, 1, 0).flow(11), 0);
            s.due("all 15", Networks.demanding(Networks.oneArc(5, 1, 2, 3), 0, 1, 15).flow(0), 15);
            s.due("a piece in part", Networks.demanding(Networks.oneArc(5, 1, 2, 3), 0, 1, 7).flow(0), 7);
        });
        s.says("NONE if the demand cannot be met.", () -> {
            s.due("just met", Networks.demanding(Networks.bent(), 0, 1, 7).flow(2), 5);
            s.same("one too many", Networks.flows(notMet()), Networks.row(NONE, NONE, NONE, NONE));
            s.due("against the arc", Networks.demanding(Networks.oneArc(1, 1), 1, 0, 1).flow(0), NONE);
        });
        s.says("Throws `IndexOutOfBoundsException` if there is no such arc", () -> {
            noSuchArc(s, ConvexConduit::flow);
        });
    }

    private static void leastOn(Sentences s) {
        s.section("Promise 14: leastOn");
        s.says("Returns the least amount on an arc in all cheapest flows.", () -> {
            ConvexConduit x = twoWays(6);
            s.same("of 6", Networks.row(x.leastOn(0), x.leastOn(1), x.leastOn(2), x.leastOn(3)),
                Networks.row(2, 1, 0, 0));
            ConvexConduit y = twoWays(9);
            s.same("of 9", Networks.row(y.leastOn(0), y.leastOn(1), y.leastOn(2), y.leastOn(3)),
                Networks.row(2, 2, 1, 1));
        });
        s.says("- `arc`: its number", () -> {
            ConvexConduit x = Networks.demanding(Networks.full(), 0, 2, 6);
            s.due("the first of 12", x.leastOn(0), 1);
            s.due("the last of 12", x.leastOn(11), 1);
        });
        s.says("Returns the amount;", () -> {
            s.due("nothing", Networks.demanding(widest(), 0, 1, 20).leastOn(0), 0);
            s.due("all 15", Networks.demanding(Networks.oneArc(5, 1, 2, 3), 0, 1, 15).leastOn(0), 15);
            s.due("no amount", Networks.demanding(widest(), 0, 1, 0).leastOn(11), 0);
            ConvexConduit x = of(2, arc(0, 1, 5, 1), arc(0, 1, 4, 1));
            x.demand(0, 1, 5);
            s.due("one unit that others cannot take", x.leastOn(0), 1);
        });
        s.says("NONE if the demand cannot be met.", () -> {
            s.due("just met", Networks.demanding(Networks.bent(), 0, 1, 7).leastOn(2), 5);
            s.due("one too many", notMet().leastOn(3), NONE);
            s.due("one too many, first arc", notMet().leastOn(0), NONE);
        });
        s.says("Throws `IndexOutOfBoundsException` if there is no such arc", () -> {
            noSuchArc(s, ConvexConduit::leastOn);
        });
    }

    /** Two bent arcs, and a way over node 2 as dear as their last pieces. */
    private static ConvexConduit twoWays(int amount) {
        ConvexConduit x = of(3, arc(0, 1, 2, 4), arc(0, 1, 1, 5), arc(0, 2, 5, 3), arc(2, 1, 3, 3));
        x.piece(0, 2, 6);
        x.piece(1, 3, 6);
        x.demand(0, 1, amount);
        return x;
    }

    private static void mostOn(Sentences s) {
        s.section("Promise 15: mostOn");
        s.says("Returns the greatest amount on an arc in all cheapest flows.", () -> {
            ConvexConduit x = twoWays(6);
            s.same("of 6", Networks.row(x.mostOn(0), x.mostOn(1), x.mostOn(2), x.mostOn(3)), Networks.row(4, 4, 3, 3));
            ConvexConduit y = twoWays(3);
            s.same("of 3", Networks.row(y.mostOn(0), y.mostOn(1), y.mostOn(2), y.mostOn(3)), Networks.row(2, 1, 0, 0));
            ConvexConduit circle = of(4, arc(2, 3, 4, 0), arc(3, 2, 3, 0), arc(3, 2, 5, 1));
            s.due("a circle for nothing", circle.mostOn(0), 3);
            s.due("and back", circle.mostOn(1), 3);
            s.due("no dear circle", circle.mostOn(2), 0);
        });
        s.says("- `arc`: its number", () -> {
            ConvexConduit x = Networks.demanding(Networks.full(), 0, 2, 6);
            s.due("the first of 12", x.mostOn(0), 1);
            s.due("the last of 12", x.mostOn(11), 1);
        });
        s.says("Returns the amount;", () -> {
            s.due("nothing", Networks.demanding(Networks.bent(), 0, 1, 2).mostOn(3), 0);
            s.due("no amount", Networks.demanding(widest(), 0, 1, 0).mostOn(11), 0);
            s.due("all 15", Networks.demanding(Networks.oneArc(5, 0, 0, 0), 0, 1, 15).mostOn(0), 15);
            ConvexConduit same = of(2, arc(0, 1, 5, 0), arc(0, 1, 5, 0), arc(0, 1, 5, 0));
            same.piece(2, 5, 0);
            same.piece(2, 5, 0);
            same.demand(0, 1, 20);
            s.due("15 of 20", same.mostOn(2), 15);
            s.due("5 of 20", same.mostOn(0), 5);
        });
        s.says("NONE if the demand cannot be met.", () -> {
            s.due("just met", Networks.demanding(Networks.bent(), 0, 1, 7).mostOn(2), 5);
            s.due("one too many", notMet().mostOn(3), NONE);
            s.due("one too many, first arc", notMet().mostOn(0), NONE);
        });
        s.says("Throws `IndexOutOfBoundsException` if there is no such arc", () -> {
            noSuchArc(s, ConvexConduit::mostOn);
        });
    }
}
