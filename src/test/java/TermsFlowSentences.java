/** The sentences of the section Terms on flows and drivers. */
final class TermsFlowSentences {
    private static final int NONE = ConvexConduit.NONE;

    /** From, to, width, price: a dead end at 4, an arc out of the target, one into the source; 4 go from 0 to 1. */
    private static final int[][] BRANCHES = {{0, 2, 3, 1}, {2, 1, 2, 1}, {2, 3, 2, 2}, {3, 1, 1, 1}, {3, 4, 5, 0},
        {1, 3, 2, 0}, {2, 0, 2, 0}, {0, 1, 1, 30}};

    private TermsFlowSentences() {
    }

    static void test(Sentences s) {
        s.section("Terms");
        flowOnArc(s);
        flowAtNodes(s);
        cost(s);
        cheapest(s);
        driversCome(s);
        driversGo(s);
        driversPay(s);
        driversChoose(s);
        driversStay(s);
    }

    private static ConvexConduit of(int nodes, int[][] arcs) {
        ConvexConduit x = new ConvexConduit(nodes);
        for (int[] arc : arcs) {
            x.arc(arc[0], arc[1], arc[2], arc[3]);
        }
        return x;
    }

    /** What goes out of a node less what comes in, in the chosen flow. */
    private static int out(ConvexConduit x, int[][] arcs, int node) {
        int out = 0;
        for (int arc = 0; arc < arcs.length; arc++) {
            out += arcs[arc][0] == node ? x.flow(arc) : 0;
            out -= arcs[arc][1] == node ? x.flow(arc) : 0;
        }
        return out;
    }

    private static void flowOnArc(Sentences s) {
        s.says("A flow has an amount on each arc, 0 to its capacity,", () -> {
            for (int amount = 0; amount <= 20; amount++) {
                ConvexConduit x = Networks.demanding(Networks.oneArc(5, 3, 3, 3), 0, 1, amount);
                s.due("up to 15, flow of " + amount, x.flow(0), amount <= 15 ? amount : NONE);
                s.due("least of " + amount, x.leastOn(0), amount <= 15 ? amount : NONE);
                s.due("most of " + amount, x.mostOn(0), amount <= 15 ? amount : NONE);
            }
            // Less than 0 on the arc from 2 to 0 would be the cheaper way.
            ConvexConduit y = of(3, new int[][] {{0, 1, 2, 9}, {2, 0, 5, 1}, {2, 1, 5, 1}});
            y.demand(0, 1, 1);
            s.due("not below 0", y.cost(), 9);
            s.due("the same", y.costByCircles(), 9);
            s.same("flow", Networks.flows(y), Networks.row(1, 0, 0));
            s.due("least", y.leastOn(1), 0);
            s.due("not the other way", y.more(2), NONE);
        });
        s.says("in whole units,", () -> {
            ConvexConduit x = of(2, new int[][] {{0, 1, 2, 1}, {0, 1, 2, 1}});
            x.demand(0, 1, 3);
            s.due("one on the first", x.flow(0), 1);
            s.due("two on the other", x.flow(1), 2);
            s.due("cost", x.cost(), 3);
        });
    }

    private static void flowAtNodes(Sentences s) {
        s.says("so that of each node what goes out and what comes in are the same", () -> {
            for (int amount = 0; amount <= 4; amount++) {
                ConvexConduit x = Networks.demanding(of(5, BRANCHES), 0, 1, amount);
                for (int node = 2; node < 5; node++) {
                    s.due("of " + amount + " at " + node, out(x, BRANCHES, node), 0);
                }
                s.due("nothing into the dead end", x.mostOn(4), 0);
            }
        });
        s.says(", but that the amount of the demand more goes out of the source,", () -> {
            for (int amount = 0; amount <= 4; amount++) {
                ConvexConduit x = Networks.demanding(of(5, BRANCHES), 0, 1, amount);
                s.due("of " + amount, out(x, BRANCHES, 0), amount);
            }
            ConvexConduit y = Networks.demanding(of(5, BRANCHES), 2, 3, 3);
            s.due("of another source", out(y, BRANCHES, 2), 3);
        });
        s.says("and comes into the target.", () -> {
            for (int amount = 0; amount <= 4; amount++) {
                ConvexConduit x = Networks.demanding(of(5, BRANCHES), 0, 1, amount);
                s.due("of " + amount, out(x, BRANCHES, 1), -amount);
            }
            ConvexConduit y = Networks.demanding(of(5, BRANCHES), 2, 3, 3);
            s.due("of another target", out(y, BRANCHES, 3), -3);
        });
    }

    private static void cost(Sentences s) {
        s.says("Its cost is, over all arcs, the sum of the prices of the units from 1 up to the amount on the arc.",
            () -> {
                int[] sums = {0, 3, 6, 11, 16, 24, 32, NONE};
                int[] sumsOfTwo = {0, 4, 8, 15, 22, 34, 46, NONE};
                for (int amount = 0; amount < sums.length; amount++) {
                    ConvexConduit x = Networks.demanding(Networks.oneArc(2, 3, 5, 8), 0, 1, amount);
                    s.due("of " + amount, x.cost(), sums[amount]);
                    s.due("by circles of " + amount, x.costByCircles(), sums[amount]);
                    ConvexConduit y = of(3, new int[][] {{0, 2, 2, 3}, {2, 1, 2, 1}});
                    y.piece(0, 2, 5);
                    y.piece(0, 2, 8);
                    y.piece(1, 2, 2);
                    y.piece(1, 2, 4);
                    y.demand(0, 1, amount);
                    s.due("over two arcs of " + amount, y.cost(), sumsOfTwo[amount]);
                }
            });
        s.says("A demand can be met if there is a flow.", () -> {
            s.due("nothing without arcs", new ConvexConduit(2).cost(), 0);
            s.due("one unit without arcs", Networks.demanding(new ConvexConduit(2), 0, 1, 1).cost(), NONE);
            for (int amount = 0; amount <= 9; amount++) {
                ConvexConduit x = Networks.demanding(Networks.bent(), 0, 1, amount);
                s.due("cost of " + amount, x.cost() == NONE ? 0 : 1, amount <= 7 ? 1 : 0);
                s.due("by circles of " + amount, x.costByCircles() == NONE ? 0 : 1, amount <= 7 ? 1 : 0);
                s.due("flow of " + amount, x.flow(3), amount <= 7 ? 0 : NONE);
                s.due("more of " + amount, x.more(0), amount <= 7 ? 0 : NONE);
            }
        });
    }

    private static void cheapest(Sentences s) {
        s.says("The cheapest flows are those of the least cost.", () -> {
            ConvexConduit same = of(2, new int[][] {{0, 1, 2, 4}, {0, 1, 2, 4}});
            same.demand(0, 1, 2);
            s.due("same price, least", same.leastOn(0), 0);
            s.due("same price, most", same.mostOn(0), 2);
            ConvexConduit oneMore = of(2, new int[][] {{0, 1, 2, 5}, {0, 1, 2, 4}});
            oneMore.demand(0, 1, 2);
            s.due("one more, most", oneMore.mostOn(0), 0);
            s.due("one less, least", oneMore.leastOn(1), 2);
            s.due("cost", oneMore.cost(), 8);
        });
        s.says("The chosen flow is, of these, the one with the least amount on the arc with the lowest number of those"
            + " on which they differ.", () -> {
                int[][] arcs = {{2, 1, 1, 1}, {3, 1, 1, 1}, {0, 2, 1, 1}, {0, 3, 1, 1}, {0, 1, 1, 2}};
                int[][] due = {{0, 0, 0, 0, 0}, {0, 0, 0, 0, 1}, {0, 1, 0, 1, 1}, {1, 1, 1, 1, 1}};
                for (int amount = 0; amount < due.length; amount++) {
                    ConvexConduit x = Networks.demanding(of(4, arcs), 0, 1, amount);
                    s.same("of " + amount, Networks.flows(x), due[amount]);
                }
                // On arc 0 they are alike, on 1 they differ; the least on 1 makes the most on 2.
                ConvexConduit y = of(2, new int[][] {{0, 1, 2, 0}, {0, 1, 3, 1}, {0, 1, 3, 1}, {0, 1, 3, 1}});
                y.demand(0, 1, 7);
                s.same("alike, then the least", Networks.flows(y), Networks.row(2, 0, 2, 3));
                ConvexConduit circle = of(4, new int[][] {{2, 3, 5, 0}, {3, 2, 5, 0}, {0, 1, 1, 0}});
                circle.demand(0, 1, 1);
                s.same("no circle", Networks.flows(circle), Networks.row(0, 0, 1));
            });
    }

    private static void driversCome(Sentences s) {
        s.says("Drivers. They come one by one, as many as the amount tells,", () -> {
            for (int amount = 0; amount <= 20; amount++) {
                ConvexConduit x = Networks.oneArc(5, 1, 1, 1);
                x.arc(0, 1, 5, 2);
                x.demand(0, 1, amount);
                s.same("drivers of " + amount, Networks.driven(x),
                    Networks.row(Math.min(amount, 15), Math.max(0, amount - 15)));
            }
        });
    }

    private static void driversGo(Sentences s) {
        s.says("and each takes one unit along a way from the source to the target,", () -> {
            for (int amount = 0; amount <= 3; amount++) {
                ConvexConduit x = of(5, new int[][] {{0, 2, 3, 1}, {2, 3, 4, 1}, {3, 1, 5, 1}, {1, 4, 5, 0},
                    {4, 0, 5, 0}});
                x.demand(0, 1, amount);
                s.same("on each arc", Networks.driven(x), Networks.row(amount, amount, amount, 0, 0));
            }
        });
        s.says("on which no node comes twice,", () -> {
            ConvexConduit x = of(4, new int[][] {{0, 2, 5, 0}, {2, 0, 5, 0}, {2, 3, 5, 0}, {3, 2, 5, 0}, {3, 1, 5, 0},
                {1, 3, 5, 0}});
            x.demand(0, 1, 2);
            s.same("no circle for nothing", Networks.driven(x), Networks.row(2, 0, 2, 0, 2, 0));
            s.due("paid", x.driven(), 0);
            // The circle over 2 and 3 has to be left for the dearer arc.
            ConvexConduit y = of(4, new int[][] {{0, 2, 1, 0}, {2, 3, 1, 0}, {3, 2, 1, 0}, {2, 1, 1, 99}});
            y.demand(0, 1, 1);
            s.same("no circle first", Networks.driven(y), Networks.row(1, 0, 0, 1));
        });
        s.says("over arcs that still have a unit;", () -> {
            ConvexConduit x = of(2, new int[][] {{0, 1, 1, 3}, {0, 1, 2, 7}});
            int[][] due = {{0, 0}, {1, 0}, {1, 1}, {1, 2}, {1, 2}};
            for (int amount = 0; amount < due.length; amount++) {
                x.demand(0, 1, amount);
                s.same("of " + amount, Networks.driven(x), due[amount]);
            }
            s.due("none is left", x.driven(), NONE);
        });
    }

    private static void driversPay(Sentences s) {
        s.says("of the next unit of each arc of the way the driver pays the price.", () -> {
            int[] pays = {1 + 2, 1 + 2, 4 + 2, 4 + 5, 9 + 5, 9 + 5};
            int sum = 0;
            for (int amount = 1; amount <= 6; amount++) {
                ConvexConduit x = of(3, new int[][] {{0, 2, 2, 1}, {2, 1, 3, 2}});
                x.piece(0, 2, 4);
                x.piece(0, 2, 9);
                x.piece(1, 3, 5);
                x.demand(0, 1, amount);
                sum += pays[amount - 1];
                s.due("the last of " + amount, x.lastPaid(), pays[amount - 1]);
                s.due("all of " + amount, x.driven(), sum);
            }
        });
    }

    /** Arcs 1 to 7 are a way over all nodes, each at a price; from 0 to 7 an arc goes directly, told first or last. */
    private static ConvexConduit longWay(int price, int direct, boolean directFirst) {
        ConvexConduit x = new ConvexConduit(8);
        x.arc(directFirst ? 0 : 7, directFirst ? 7 : 0, 1, direct);
        for (int node = 0; node < 7; node++) {
            x.arc(node, node + 1, 1, price);
        }
        x.arc(directFirst ? 7 : 0, directFirst ? 0 : 7, 1, direct);
        x.demand(0, 7, 1);
        return x;
    }

    private static void driversChoose(Sentences s) {
        s.says("Each takes the way on which that is least,", () -> {
            s.due("seven arcs for nothing, not one for 1", longWay(0, 1, true).drivenOn(7), 1);
            s.due("seven arcs for 98, not one for 99", longWay(14, 99, true).drivenOn(7), 1);
            s.due("paid", longWay(14, 99, true).driven(), 98);
            s.due("one for 99, not seven for 105", longWay(15, 99, false).drivenOn(8), 1);
            s.due("paid", longWay(15, 99, false).driven(), 99);
        });
        s.says("of several such the one with the fewest arcs,", () -> {
            s.due("one, not seven, for nothing", longWay(0, 0, false).drivenOn(8), 1);
            s.due("one, not seven, for 98", longWay(14, 98, false).drivenOn(8), 1);
            ConvexConduit x = longWay(14, 99, false);
            x.arc(0, 6, 1, 84);
            s.due("two, not seven", x.drivenOn(9), 1);
            x.arc(0, 5, 1, 70);
            s.due("two, not three", x.drivenOn(9), 1);
            ConvexConduit y = of(3, new int[][] {{0, 2, 1, 1}, {2, 1, 1, 1}, {0, 1, 1, 2}});
            y.demand(0, 1, 1);
            s.same("one of a higher number, not two", Networks.driven(y), Networks.row(0, 0, 1));
        });
        s.says("of several such the one that has the lower arc number where they first differ.", () -> {
            ConvexConduit x = of(4, new int[][] {{3, 1, 1, 2}, {0, 2, 1, 2}, {0, 3, 1, 2}, {2, 1, 1, 2}});
            x.demand(0, 1, 1);
            s.same("at the first arc", Networks.driven(x), Networks.row(0, 1, 0, 1));
            ConvexConduit y = of(4, new int[][] {{0, 2, 1, 1}, {3, 1, 1, 0}, {2, 3, 1, 1}, {2, 3, 1, 1}, {3, 1, 1, 0}});
            y.demand(0, 1, 1);
            s.same("at the second and third", Networks.driven(y), Networks.row(1, 1, 1, 0, 0));
            ConvexConduit z = of(2, new int[][] {{0, 1, 1, 5}, {0, 1, 1, 4}, {0, 1, 1, 4}});
            z.demand(0, 1, 1);
            s.same("beside each other", Networks.driven(z), Networks.row(0, 1, 0));
        });
    }

    private static void driversStay(Sentences s) {
        s.says("Units that were taken stay taken.", () -> {
            ConvexConduit x = of(4, new int[][] {{0, 2, 1, 1}, {2, 3, 1, 0}, {3, 1, 1, 1}, {0, 3, 1, 9}, {2, 1, 1, 9}});
            x.demand(0, 1, 2);
            s.due("two could go", x.cost(), 20);
            s.due("but the second driver finds no way", x.driven(), NONE);
            s.same("behind the first", Networks.driven(x), Networks.row(1, 1, 1, 0, 0));
            ConvexConduit y = of(4, new int[][] {{0, 2, 1, 1}, {2, 3, 1, 0}, {3, 1, 1, 1}, {0, 3, 1, 9}, {2, 1, 1, 9},
                {0, 1, 1, 99}});
            y.demand(0, 1, 2);
            s.due("dearer than the cheapest flow", y.driven(), 2 + 99);
            s.due("which is", y.cost(), 20);
        });
    }
}
