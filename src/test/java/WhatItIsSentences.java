/** The sentences of the section What it is. */
final class WhatItIsSentences {
    private static final int NONE = ConvexConduit.NONE;

    private WhatItIsSentences() {
    }

    static void test(Sentences s) {
        s.section("What it is");
        flows(s);
        told(s);
        manyCalls(s);
        laterCalls(s);
    }

    private static void flows(Sentences s) {
        s.says("A library of flows whose prices are bent: each arc of a network has pieces of growing price,", () -> {
            int[] due = {0, 2, 4, 9, 14, 22, 30, NONE};
            for (int amount = 0; amount < due.length; amount++) {
                ConvexConduit x = Networks.demanding(Networks.oneArc(2, 2, 5, 8), 0, 1, amount);
                s.due("cost of " + amount, x.cost(), due[amount]);
                s.due("flow of " + amount, x.flow(0), amount == 7 ? NONE : amount);
            }
        });
        s.says("and an amount goes from a source to a target as cheaply as can be;", () -> {
            int[] due = {0, 2, 4, 24, 44, 64, 84, 104, NONE};
            for (int amount = 0; amount < due.length; amount++) {
                s.due("cost of " + amount, Networks.demanding(Networks.bent(), 0, 1, amount).cost(), due[amount]);
            }
            s.due("to another target", Networks.demanding(Networks.bent(), 0, 3, 1).cost(), 2);
            s.due("from another source", Networks.demanding(Networks.bent(), 2, 3, 1).cost(), 1);
        });
    }

    private static void told(Sentences s) {
        s.says("the price of a unit more,", () -> {
            int[] due = {2, 2, 20, 20, 20, 20, 20, NONE};
            for (int amount = 0; amount < due.length; amount++) {
                s.due("after " + amount, Networks.demanding(Networks.bent(), 0, 1, amount).more(1), due[amount]);
            }
        });
        s.says("what arcs can carry in the cheapest flows,", () -> {
            ConvexConduit x = Networks.oneArc(3, 4, 6);
            x.arc(0, 1, 2, 6);
            x.demand(0, 1, 6);
            s.same("the least", Networks.row(x.leastOn(0), x.leastOn(1)), Networks.row(4, 0));
            s.same("the greatest", Networks.row(x.mostOn(0), x.mostOn(1)), Networks.row(6, 2));
            s.same("of the chosen one", Networks.flows(x), Networks.row(4, 2));
        });
        s.says("and what drivers would pay who come one by one are told.", () -> {
            int[] due = {0, 2, 4, 24, 44};
            for (int amount = 0; amount < due.length; amount++) {
                s.due("of " + amount, Networks.demanding(Networks.bent(), 0, 1, amount).driven(), due[amount]);
            }
            ConvexConduit x = new ConvexConduit(4);
            x.arc(0, 2, 1, 1);
            x.arc(2, 3, 1, 0);
            x.arc(3, 1, 1, 1);
            x.arc(0, 3, 1, 9);
            x.arc(2, 1, 1, 9);
            x.arc(0, 1, 1, 70);
            x.demand(0, 1, 2);
            s.due("two who come one by one", x.driven(), 2 + 70);
            s.due("two who go together", x.cost(), 10 + 10);
        });
    }

    private static void manyCalls(Sentences s) {
        s.says("An object is used for at most 512 calls after it has been made", () -> {
            ConvexConduit x = new ConvexConduit(3);
            int calls = 1;
            s.due("nodes", x.nodes(), 3);
            for (int arc = 0; arc < 11; arc++, calls++) {
                s.due("arc", x.arc(arc % 2, arc % 2 + 1, 5, 99), arc);
            }
            for (; calls + 2 + 6 <= 512; calls += 2) {
                x.demand(0, 2, calls % 20);
                s.due("cost after " + calls, x.cost(), 198 * (calls % 20));
            }
            s.due("the last arc", x.arc(0, 2, 5, 1), 11);
            s.due("the last piece", x.piece(11, 5, 2), 10);
            x.demand(0, 2, 11);
            s.due("cost", x.cost(), 5 + 10 + 198);
            s.due("driven", x.driven(), 5 + 10 + 198);
            s.due("the 512th call", x.flow(11), 10);
            s.due("calls", calls + 6, 512);
        });
    }

    /** What they answer is not looked at: they only must come back, as the language's rule 7 asks. */
    private static void laterCalls(Sentences s) {
        s.says("; what later calls answer is free.", () -> {
            ConvexConduit x = Networks.full();
            int calls = 0;
            for (; calls < 3000; calls += 7) {
                x.demand(calls % 2, 2, calls % 21);
                x.cost();
                x.costByCircles();
                x.more(calls % 3);
                x.mostOn(calls % 12);
                x.flow(11);
                x.driven();
            }
            s.due("come back", calls, 3003);
        });
    }
}
