/** The sentences of the promises 16 to 18, on drivers. */
final class DriverSentences {
    private static final Class<IndexOutOfBoundsException> NO_SUCH = IndexOutOfBoundsException.class;
    private static final int NONE = ConvexConduit.NONE;

    private DriverSentences() {
    }

    static void test(Sentences s) {
        driven(s);
        drivenOn(s);
        drivenOnRefuses(s);
        lastPaid(s);
    }

    /** A bent way over 2 and a dearer arc; four drivers find a way, for 2, 5, 5 and 10. */
    private static ConvexConduit fourFindAWay(int amount) {
        ConvexConduit x = new ConvexConduit(4);
        x.arc(0, 2, 1, 1);
        x.piece(0, 1, 4);
        x.arc(2, 1, 1, 1);
        x.piece(1, 1, 6);
        x.arc(0, 1, 2, 5);
        x.demand(0, 1, amount);
        return x;
    }

    /** The first driver takes all three arcs that the second one's ways go over, though a flow of 2 is there. */
    private static ConvexConduit oneFindsAWay(int amount) {
        ConvexConduit x = new ConvexConduit(4);
        x.arc(0, 2, 1, 1);
        x.arc(2, 3, 1, 0);
        x.arc(3, 1, 1, 1);
        x.arc(0, 3, 1, 9);
        x.arc(2, 1, 1, 9);
        x.demand(0, 1, amount);
        return x;
    }

    private static void driven(Sentences s) {
        s.section("Promise 16: driven");
        s.says("Returns what all drivers pay together.", () -> {
            int[] due = {0, 2, 7, 12, 22};
            for (int amount = 0; amount < due.length; amount++) {
                s.due("of " + amount, fourFindAWay(amount).driven(), due[amount]);
            }
        });
        s.says("Returns the sum;", () -> {
            s.due("no driver", new ConvexConduit(2).driven(), 0);
            s.due("no driver, arcs", Networks.demanding(Networks.bent(), 0, 1, 0).driven(), 0);
            s.due("at no price", Networks.demanding(Networks.oneArc(5, 0, 0, 0), 0, 1, 15).driven(), 0);
            s.due("over as many arcs as can be", Networks.demanding(Networks.chain(7), 0, 7, 15).driven(), 15 * 7 * 99);
            ConvexConduit x = new ConvexConduit(7);
            for (int arc = 0; arc < 12; arc++) {
                x.arc(arc / 2, arc / 2 + 1, 5, 99);
                x.piece(arc, 5, 99);
            }
            x.demand(0, 6, 20);
            s.due("as dear as can be", x.driven(), 20 * 6 * 99);
        });
        s.says("NONE if one of them finds no way.", () -> {
            s.due("the first", Networks.demanding(new ConvexConduit(2), 0, 1, 1).driven(), NONE);
            s.due("the last one does", fourFindAWay(4).driven(), 22);
            s.due("the fifth", fourFindAWay(5).driven(), NONE);
            s.due("the fifth of 20", fourFindAWay(20).driven(), NONE);
            s.due("the second, though the demand can be met", oneFindsAWay(2).driven(), NONE);
            s.due("not the first", oneFindsAWay(1).driven(), 2);
            s.due("against the arc", Networks.demanding(Networks.oneArc(1, 1), 1, 0, 1).driven(), NONE);
        });
    }

    private static void drivenOn(Sentences s) {
        s.section("Promise 17: drivenOn");
        s.says("Returns how many drivers take an arc", () -> {
            int[][] due = {{0, 0, 0}, {1, 1, 0}, {1, 1, 1}, {1, 1, 2}, {2, 2, 2}};
            for (int amount = 0; amount < due.length; amount++) {
                s.same("of " + amount, Networks.driven(fourFindAWay(amount)), due[amount]);
            }
        });
        s.says(", of those that find a way ahead of the first one who does not.", () -> {
            s.same("the fifth does not", Networks.driven(fourFindAWay(5)), Networks.row(2, 2, 2));
            s.same("nor do those behind", Networks.driven(fourFindAWay(20)), Networks.row(2, 2, 2));
            s.same("the second does not", Networks.driven(oneFindsAWay(2)), Networks.row(1, 1, 1, 0, 0));
            s.same("the first does not", Networks.driven(Networks.demanding(Networks.bent(), 1, 0, 3)),
                Networks.row(0, 0, 0, 0));
            s.same("not a part of a way", Networks.driven(Networks.demanding(Networks.bent(), 2, 3, 2)),
                Networks.row(0, 1, 0, 1));
        });
        s.says("- `arc`: its number", () -> {
            ConvexConduit x = Networks.demanding(Networks.full(), 0, 2, 6);
            s.due("the first of 12", x.drivenOn(0), 1);
            s.due("the last of 12", x.drivenOn(11), 1);
        });
        s.says("Returns how many.", () -> {
            s.due("none", Networks.demanding(Networks.oneArc(5, 0, 0, 0), 0, 1, 0).drivenOn(0), 0);
            s.due("all 15", Networks.demanding(Networks.oneArc(5, 0, 0, 0), 0, 1, 15).drivenOn(0), 15);
            s.due("15 of 16", Networks.demanding(Networks.oneArc(5, 0, 0, 0), 0, 1, 16).drivenOn(0), 15);
        });
    }

    private static void drivenOnRefuses(Sentences s) {
        s.says("Throws `IndexOutOfBoundsException` if there is no such arc", () -> {
            for (int arc : Networks.outside(0, 2)) {
                s.refuses("arc " + arc, NO_SUCH, () -> fourFindAWay(3), x -> x.drivenOn(arc));
                s.refuses("no way, arc " + arc, NO_SUCH, () -> fourFindAWay(5), x -> x.drivenOn(arc));
                s.refuses("no driver, arc " + arc, NO_SUCH, () -> fourFindAWay(0), x -> x.drivenOn(arc));
            }
            for (int arc : Networks.outside(0, 11)) {
                s.refuses("of 12, arc " + arc, NO_SUCH, Networks::full, x -> x.drivenOn(arc));
            }
            s.refuses("none at all", NO_SUCH, () -> new ConvexConduit(2), x -> x.drivenOn(0));
        });
    }

    private static void lastPaid(Sentences s) {
        s.section("Promise 18: lastPaid");
        s.says("Returns what the last one of these drivers pays.", () -> {
            int[] due = {NONE, 2, 5, 5, 10, 10, 10};
            for (int amount = 0; amount < due.length; amount++) {
                s.due("of " + amount, fourFindAWay(amount).lastPaid(), due[amount]);
            }
            s.due("of 20, of whom four find a way", fourFindAWay(20).lastPaid(), 10);
            s.due("the first, when the second finds none", oneFindsAWay(2).lastPaid(), 2);
        });
        s.says("Returns the price of the way;", () -> {
            s.due("at no price", Networks.demanding(Networks.oneArc(5, 0, 0, 0), 0, 1, 15).lastPaid(), 0);
            s.due("over as many arcs as can be", Networks.demanding(Networks.chain(7), 0, 7, 15).lastPaid(), 7 * 99);
            s.due("of that driver alone", Networks.demanding(Networks.oneArc(1, 1, 2, 3), 0, 1, 3).lastPaid(), 3);
        });
        s.says("NONE if there is none.", () -> {
            s.due("without arcs", new ConvexConduit(2).lastPaid(), NONE);
            s.due("no driver", fourFindAWay(0).lastPaid(), NONE);
            s.due("the first finds no way", Networks.demanding(Networks.bent(), 1, 0, 3).lastPaid(), NONE);
            ConvexConduit x = fourFindAWay(3);
            s.due("one of three", x.lastPaid(), 5);
            x.demand(0, 1, 0);
            s.due("none any more", x.lastPaid(), NONE);
        });
    }
}
