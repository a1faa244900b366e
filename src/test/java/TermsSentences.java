import java.nio.file.Files;
import java.nio.file.Path;

/** The sentences of the section Terms on what is told, on refused calls and on the interface. */
final class TermsSentences {
    private static final Class<IndexOutOfBoundsException> NO_SUCH = IndexOutOfBoundsException.class;
    private static final Class<IllegalArgumentException> OUT_OF_RANGE = IllegalArgumentException.class;
    private static final Class<IllegalStateException> FULL = IllegalStateException.class;
    private static final int NONE = ConvexConduit.NONE;

    private TermsSentences() {
    }

    static void test(Sentences s) throws Exception {
        s.section("Terms");
        calls(s);
        nodes(s);
        arcs(s);
        pieces(s);
        units(s);
        demand(s);
        refusedTelling(s);
        refusedAsking(s);
        severalRefusals(s);
        constants(s);
        groups(s, Files.readString(Path.of("src/main/java/ConvexConduit.java")));
    }

    private static void calls(Sentences s) {
        s.says("Arcs and pieces are told, a demand is set, and flows and prices are asked.", () -> {
            ConvexConduit x = new ConvexConduit(2);
            x.demand(0, 1, 2);
            s.due("nothing told", x.cost(), NONE);
            s.due("arc", x.arc(0, 1, 1, 5), 0);
            s.due("one unit told", x.flow(0), NONE);
            s.due("piece", x.piece(0, 1, 7), 2);
            s.due("flow", x.flow(0), 2);
            s.due("price", x.price(0, 2), 7);
            x.demand(0, 1, 1);
            s.due("other demand", x.flow(0), 1);
        });
        s.says("Calls that ask change nothing.", () -> {
            for (Sentences.Network network : new Sentences.Network[] {Networks::bent, Networks::full,
                () -> Networks.demanding(Networks.bent(), 0, 1, 8), () -> new ConvexConduit(8)}) {
                ConvexConduit x = network.build();
                int[] first = Networks.answers(x);
                s.same("asked twice", Networks.answers(x), first);
                s.same("asked one by one", oneByOne(network), Networks.row(x.most(), x.cost(), x.costByCircles(),
                    x.more(1), x.driven(), x.lastPaid()));
            }
            ConvexConduit x = Networks.bent();
            Networks.answers(x);
            s.due("an arc after asks", x.arc(0, 1, 1, 0), 4);
            Networks.answers(x);
            s.due("a piece after asks", x.piece(0, 1, 9), 4);
            Networks.answers(x);
            x.demand(0, 1, 1);
            s.due("taken anew", x.driven(), 0);
            s.due("the cheapest anew", x.flow(0), 0);
        });
    }

    private static int[] oneByOne(Sentences.Network network) {
        return Networks.row(network.build().most(), network.build().cost(), network.build().costByCircles(),
            network.build().more(1), network.build().driven(), network.build().lastPaid());
    }

    private static void nodes(Sentences s) {
        s.says("There are 2 to 8 nodes, numbered from 0;", () -> {
            for (int nodes = 2; nodes <= 8; nodes++) {
                int last = nodes - 1;
                ConvexConduit x = Networks.ofNodes(nodes);
                s.due("from the last", x.arc(last, 0, 1, 6), 0);
                s.due("from 0", x.arc(0, last, 1, 5), 1);
                s.due("more of 0", x.more(0), 0);
                s.due("more of the last", x.more(last), 5);
                x.demand(last, 0, 1);
                s.due("from the last to 0", x.cost(), 6);
                for (int node : Networks.outside(0, last)) {
                    s.refuses("no node", NO_SUCH, () -> Networks.ofNodes(last + 1), y -> y.more(node));
                }
            }
        });
        s.says("how many is told to the constructor.", () -> {
            for (int nodes = 2; nodes <= 8; nodes++) {
                s.due("nodes", new ConvexConduit(nodes).nodes(), nodes);
            }
        });
    }

    private static void arcs(Sentences s) {
        s.says("Arcs are numbered from 0 on, in the order in which they are told;", () -> {
            ConvexConduit x = new ConvexConduit(3);
            for (int arc = 0; arc < 12; arc++) {
                s.due("number", x.arc((arc + 2) % 3, arc % 3, arc % 5 + 1, 99 - arc), arc);
            }
            for (int arc = 0; arc < 12; arc++) {
                s.due("width of " + arc, x.capacity(arc), arc % 5 + 1);
                s.due("price of " + arc, x.price(arc, 1), 99 - arc);
            }
        });
        s.says("there are at most 12.", () -> {
            ConvexConduit x = Networks.full();
            s.due("12", x.arcs(), 12);
            s.due("the last one", x.capacity(11), 1);
            s.refuses("a 13th", FULL, Networks::full, y -> y.arc(0, 1, 1, 1));
            s.refuses("capacity of a 13th", NO_SUCH, Networks::full, y -> y.capacity(12));
        });
        s.says("An arc goes from a node to another one;", () -> {
            ConvexConduit x = new ConvexConduit(2);
            x.arc(0, 1, 1, 3);
            x.demand(1, 0, 1);
            s.due("not back", x.cost(), NONE);
            s.due("no driver back", x.driven(), NONE);
            s.due("none back", x.most(), 0);
            x.demand(0, 1, 1);
            s.due("along", x.cost(), 3);
            for (int node = 0; node < 4; node++) {
                int same = node;
                s.refuses("to itself", OUT_OF_RANGE, Networks::bent, y -> y.arc(same, same, 1, 1));
            }
        });
        s.says("there may be several between the same nodes.", () -> {
            ConvexConduit x = new ConvexConduit(2);
            for (int arc = 0; arc < 12; arc++) {
                s.due("one more", x.arc(arc < 6 ? 0 : 1, arc < 6 ? 1 : 0, 1, arc), arc);
            }
            s.due("there", x.most(), 6);
            x.demand(1, 0, 6);
            s.due("and back", x.cost(), 6 + 7 + 8 + 9 + 10 + 11);
        });
    }

    private static void pieces(Sentences s) {
        s.says("It has 1 to 3 pieces", () -> {
            ConvexConduit x = new ConvexConduit(2);
            for (int arc = 0; arc < 12; arc++) {
                x.arc(0, 1, 1, 3);
                s.due("one", x.capacity(arc), 1);
            }
            for (int arc = 11; arc >= 0; arc--) {
                s.due("two", x.piece(arc, 1, 4), 2);
                s.due("three", x.piece(arc, 1, 5), 3);
            }
            for (int arc = 0; arc < 12; arc++) {
                int asked = arc;
                s.refuses("four", FULL, TermsSentences::allPieces, y -> y.piece(asked, 1, 5));
            }
        });
        s.says(", each with a width, 1 to 5,", () -> {
            for (int width = 1; width <= 5; width++) {
                ConvexConduit x = new ConvexConduit(2);
                x.arc(0, 1, width, 1);
                s.due("of the first", x.capacity(0), width);
                s.due("of the second", x.piece(0, width, 1), 2 * width);
                s.due("of the third", x.piece(0, width, 1), 3 * width);
            }
            for (int width : Networks.outside(1, 5)) {
                s.refuses("of the first", OUT_OF_RANGE, Networks::bent, x -> x.arc(0, 1, width, 1));
                s.refuses("of the next", OUT_OF_RANGE, Networks::bent, x -> x.piece(0, width, 9));
            }
        });
        s.says("and a price, 0 to 99,", () -> {
            for (int price = 0; price <= 99; price++) {
                ConvexConduit x = new ConvexConduit(2);
                x.arc(0, 1, 1, price);
                s.due("second piece", x.piece(0, 1, price), 2);
                s.due("of the first", x.price(0, 1), price);
                s.due("of the second", x.price(0, 2), price);
            }
            for (int price : Networks.outside(0, 99)) {
                s.refuses("of the first", OUT_OF_RANGE, Networks::bent, x -> x.arc(0, 1, 1, price));
                s.refuses("of the next", OUT_OF_RANGE, Networks::bent, x -> x.piece(0, 1, price));
            }
        });
        s.says("which is not below that of the piece before.", () -> {
            ConvexConduit x = Networks.oneArc(1, 10);
            s.refuses("one below the first", OUT_OF_RANGE, () -> x, y -> y.piece(0, 1, 9));
            s.due("the same", x.piece(0, 1, 10), 2);
            s.refuses("below the second", OUT_OF_RANGE, () -> x, y -> y.piece(0, 1, 9));
            s.due("one above", x.piece(0, 1, 11), 3);
            ConvexConduit z = Networks.oneArc(1, 10, 30);
            s.refuses("not below the first, below the second", OUT_OF_RANGE, () -> z, y -> y.piece(0, 1, 29));
        });
    }

    private static ConvexConduit allPieces() {
        ConvexConduit x = new ConvexConduit(2);
        for (int arc = 0; arc < 12; arc++) {
            x.arc(0, 1, 1, 3);
            x.piece(arc, 1, 4);
            x.piece(arc, 1, 5);
        }
        return x;
    }

    private static void units(Sentences s) {
        s.says("Its capacity is the sum of the widths.", () -> {
            for (int widths = 111; widths <= 555; widths++) {
                int first = widths / 100;
                int second = widths / 10 % 10;
                int third = widths % 10;
                if (Math.min(second, third) >= 1 && Math.max(second, third) <= 5) {
                    ConvexConduit x = new ConvexConduit(2);
                    x.arc(0, 1, first, 1);
                    s.due("of two", x.piece(0, second, 1), first + second);
                    s.due("of three", x.piece(0, third, 1), first + second + third);
                    s.due("asked", x.capacity(0), first + second + third);
                }
            }
        });
        s.says("Its units are numbered from 1 up to the capacity;", () -> {
            for (int unit = 1; unit <= 15; unit++) {
                s.due("unit " + unit, Networks.oneArc(5, 8, 8, 8).price(0, unit), 8);
            }
            for (int unit : Networks.outside(1, 15)) {
                s.refuses("no unit", NO_SUCH, () -> Networks.oneArc(5, 8, 8, 8), x -> x.price(0, unit));
            }
            s.refuses("above the one unit", NO_SUCH, () -> Networks.oneArc(1, 8), x -> x.price(0, 2));
        });
        s.says("the first ones, as many as the width of the first piece tells, have the price of that", () -> {
            ConvexConduit x = Networks.oneArc(3, 20, 40, 70);
            s.due("unit 1", x.price(0, 1), 20);
            s.due("unit 3", x.price(0, 3), 20);
            s.due("unit 4 no more", x.price(0, 4), 40);
        });
        s.says(", the next ones that of the second piece, and so on.", () -> {
            ConvexConduit x = Networks.oneArc(3, 20, 40, 70);
            s.due("unit 4", x.price(0, 4), 40);
            s.due("unit 6", x.price(0, 6), 40);
            s.due("unit 7", x.price(0, 7), 70);
            s.due("unit 9", x.price(0, 9), 70);
        });
    }

    private static void demand(Sentences s) {
        s.says("The demand is a source and a target, which are unlike nodes", () -> {
            for (int pair = 0; pair < 16; pair++) {
                int source = pair / 4;
                int target = pair % 4;
                if (source == target) {
                    s.refuses("alike", OUT_OF_RANGE, Networks::bent, x -> Networks.demand(x, source, target, 1));
                } else {
                    ConvexConduit x = new ConvexConduit(4);
                    x.arc(source, target, 2, pair);
                    x.demand(source, target, 2);
                    s.due("unlike", x.cost(), 2 * pair);
                }
            }
        });
        s.says(", and an amount, 0 to 20;", () -> {
            for (int amount = 0; amount <= 20; amount++) {
                ConvexConduit x = new ConvexConduit(2);
                for (int arc = 0; arc < 4; arc++) {
                    x.arc(0, 1, 5, 3);
                }
                x.demand(0, 1, amount);
                s.due("cost", x.cost(), 3 * amount);
                s.due("driven", x.driven(), 3 * amount);
            }
            for (int amount : Networks.outside(0, 20)) {
                s.refuses("no amount", OUT_OF_RANGE, Networks::bent, x -> Networks.demand(x, 0, 1, amount));
            }
        });
        s.says("at first it is from node 0 to node 1, with the amount 0.", () -> {
            ConvexConduit x = new ConvexConduit(3);
            x.arc(0, 1, 3, 4);
            x.arc(1, 0, 5, 1);
            x.arc(0, 2, 2, 2);
            s.due("from 0 to 1", x.most(), 3);
            s.due("from 0", x.more(0), 0);
            s.due("from 0 to another", x.more(2), 2);
            s.due("amount 0 costs", x.cost(), 0);
            s.due("no driver", x.lastPaid(), NONE);
            s.same("amount 0 flows", Networks.flows(x), Networks.row(0, 0, 0));
        });
    }

    private static void refusedTelling(Sentences s) {
        s.says("A call that throws an exception changes nothing.", () -> {
            s.refuses("arc: node", NO_SUCH, Networks::bent, x -> x.arc(0, 4, 1, 1));
            s.refuses("arc: width", OUT_OF_RANGE, Networks::bent, x -> x.arc(0, 1, 6, 0));
            s.refuses("arc: price", OUT_OF_RANGE, Networks::bent, x -> x.arc(0, 1, 1, 100));
            s.refuses("arc: full", FULL, Networks::full, x -> x.arc(0, 2, 5, 0));
            s.refuses("piece: arc", NO_SUCH, Networks::bent, x -> x.piece(4, 1, 99));
            s.refuses("piece: width", OUT_OF_RANGE, Networks::bent, x -> x.piece(0, 6, 9));
            s.refuses("piece: price", OUT_OF_RANGE, Networks::bent, x -> x.piece(0, 1, 8));
            s.refuses("piece: full", FULL, Networks::full, x -> x.piece(0, 1, 60));
            s.refuses("demand: source", NO_SUCH, Networks::bent, x -> Networks.demand(x, 4, 3, 1));
            s.refuses("demand: target", NO_SUCH, Networks::bent, x -> Networks.demand(x, 2, 4, 1));
            s.refuses("demand: same", OUT_OF_RANGE, Networks::bent, x -> Networks.demand(x, 2, 2, 1));
            s.refuses("demand: amount", OUT_OF_RANGE, Networks::bent, x -> Networks.demand(x, 2, 1, 21));
            ConvexConduit x = Networks.bent();
            s.refuses("an arc's number is not used up", OUT_OF_RANGE, () -> x, y -> y.arc(0, 1, 0, 1));
            s.due("the next arc", x.arc(0, 1, 1, 1), 4);
            s.refuses("a piece is not used up", OUT_OF_RANGE, () -> x, y -> y.piece(0, 0, 50));
            s.refuses("nor is a price kept", OUT_OF_RANGE, () -> x, y -> y.piece(0, 6, 50));
            s.due("the third piece", x.piece(0, 1, 9), 4);
        });
    }

    private static void refusedAsking(Sentences s) {
        s.says("A call that throws an exception", () -> {
            Sentences.CallOn[] calls = {x -> x.capacity(12), x -> x.price(12, 1), x -> x.price(0, 16), x -> x.more(8),
                x -> x.flow(12), x -> x.leastOn(12), x -> x.mostOn(12), x -> x.drivenOn(12)};
            for (Sentences.CallOn call : calls) {
                s.refuses("asked", NO_SUCH, Networks::bent, call);
                s.refuses("asked", NO_SUCH, Networks::full, call);
            }
        });
    }

    private static void severalRefusals(Sentences s) {
        s.says("If several apply, the one that the throws clause names first is thrown.", () -> {
            s.refuses("arc: node, width", NO_SUCH, Networks::bent, x -> x.arc(0, 4, 0, 1));
            s.refuses("arc: node, price", NO_SUCH, Networks::bent, x -> x.arc(-1, 0, 1, -1));
            s.refuses("arc: node, same", NO_SUCH, Networks::bent, x -> x.arc(4, 4, 1, 1));
            s.refuses("arc: node, full", NO_SUCH, Networks::full, x -> x.arc(0, 3, 1, 1));
            s.refuses("arc: same, full", OUT_OF_RANGE, Networks::full, x -> x.arc(1, 1, 1, 1));
            s.refuses("arc: width, full", OUT_OF_RANGE, Networks::full, x -> x.arc(0, 1, 6, 1));
            s.refuses("arc: price, full", OUT_OF_RANGE, Networks::full, x -> x.arc(0, 1, 1, 100));
            s.refuses("arc: all", NO_SUCH, Networks::full, x -> x.arc(3, 3, 0, -1));
            s.refuses("piece: arc, width", NO_SUCH, Networks::bent, x -> x.piece(4, 6, 1));
            s.refuses("piece: arc, price", NO_SUCH, Networks::bent, x -> x.piece(-1, 1, 100));
            s.refuses("piece: width, full", OUT_OF_RANGE, Networks::full, x -> x.piece(0, 0, 60));
            s.refuses("piece: price below, full", OUT_OF_RANGE, Networks::full, x -> x.piece(0, 1, 59));
            s.refuses("piece: price above, full", OUT_OF_RANGE, Networks::full, x -> x.piece(0, 1, 100));
            s.refuses("demand: source, amount", NO_SUCH, Networks::bent, x -> Networks.demand(x, 4, 1, 21));
            s.refuses("demand: target, amount", NO_SUCH, Networks::bent, x -> Networks.demand(x, 0, -1, -1));
            s.refuses("demand: node, same", NO_SUCH, Networks::bent, x -> Networks.demand(x, 4, 4, 1));
            s.refuses("price: arc and unit", NO_SUCH, Networks::bent, x -> x.price(4, 0));
        });
    }

    private static void constants(Sentences s) {
        s.says("The constants: `NONE = -1`: There is none.", () -> {
            s.due("NONE", ConvexConduit.NONE, -1);
            s.due("not met", Networks.demanding(new ConvexConduit(2), 0, 1, 1).cost(), -1);
        });
    }

    private static void groups(Sentences s, String program) {
        group(s, program, "Ahead of the calls `arc`, `piece`, `demand` the interface says: ---- arcs and the demand.");
        group(s, program, "Ahead of the calls `nodes`, `arcs`, `capacity`, `price` the interface says:"
            + " ---- the network.");
        group(s, program, "Ahead of the calls `most`, `cost`, `costByCircles`, `more`, `flow`, `leastOn`, `mostOn` the"
            + " interface says: ---- cheapest flows.");
        group(s, program, "Ahead of the calls `driven`, `drivenOn`, `lastPaid` the interface says: ---- drivers.");
    }

    /** The heading stands in the program ahead of just these calls. */
    private static void group(Sentences s, String program, String sentence) {
        s.says(sentence, () -> {
            int dashes = sentence.indexOf("---- ");
            int begin = program.indexOf("// " + sentence.substring(dashes, sentence.length() - 1) + "\n");
            int end = program.indexOf("// ---- ", begin + 1);
            s.due("written", begin >= 0 ? 1 : 0, 1);
            String[] parts = sentence.substring(0, dashes).split("`");
            for (int i = 1; i < parts.length; i += 2) {
                String type = parts[i].equals("demand") ? "void " : "int ";
                int at = program.indexOf("    public " + type + parts[i] + "(");
                s.due("ahead of " + parts[i], at > begin && (end < 0 || at < end) ? 1 : 0, 1);
            }
        });
    }
}
