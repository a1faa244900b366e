/**
 * A network whose arcs have pieces of growing price, and one demand on it: what the demand costs
 * at least, what its cheapest flows carry, and what drivers pay who come one by one.
 */
public final class ConvexConduit {
    /** There is none. */
    public static final int NONE = -1;

    private static final int FEWEST_NODES = 2;
    private static final int MOST_NODES = 8;
    private static final int MOST_ARCS = 12;
    private static final int MOST_PIECES = 3;
    private static final int MOST_WIDTH = 5;
    private static final int MOST_PRICE = 99;
    private static final int MOST_AMOUNT = 20;
    private static final int MOST_UNITS = MOST_PIECES * MOST_WIDTH;
    private static final int ALL_UNITS = MOST_ARCS * MOST_UNITS;

    /** Stands for a unit that is not there and for a node that is not reached: above every sum of prices. */
    private static final int FAR = 1000000;

    private final Network network;
    private final CheapestFlow cheapest;
    private final UnitCircles circles;
    private final Drivers drivers;
    private int source = 0;
    private int target = 1;
    private int amount = 0;

    public ConvexConduit(int nodes) {
        network = new Network(Math.max(FEWEST_NODES, Math.min(MOST_NODES, nodes)));
        cheapest = new CheapestFlow(network);
        circles = new UnitCircles(network);
        drivers = new Drivers(network);
    }

    // ---- arcs and the demand

    public int arc(int from, int to, int width, int price)
            throws IndexOutOfBoundsException, IllegalArgumentException, IllegalStateException {
        refuseOtherThanNode(from);
        refuseOtherThanNode(to);
        if (from == to || isNoWidth(width) || price < 0 || price > MOST_PRICE) {
            throw new IllegalArgumentException();
        }
        if (network.arcs >= MOST_ARCS) {
            throw new IllegalStateException();
        }
        return network.addArc(from, to, width, price);
    }

    public int piece(int arc, int width, int price)
            throws IndexOutOfBoundsException, IllegalArgumentException, IllegalStateException {
        refuseOtherThanArc(arc);
        if (isNoWidth(width) || price < network.lastPrice(arc) || price > MOST_PRICE) {
            throw new IllegalArgumentException();
        }
        if (network.pieces[arc] >= MOST_PIECES) {
            throw new IllegalStateException();
        }
        network.addPiece(arc, width, price);
        return network.capacity[arc];
    }

    public void demand(int source, int target, int amount)
            throws IndexOutOfBoundsException, IllegalArgumentException {
        refuseOtherThanNode(source);
        refuseOtherThanNode(target);
        if (source == target || amount < 0 || amount > MOST_AMOUNT) {
            throw new IllegalArgumentException();
        }
        this.source = source;
        this.target = target;
        this.amount = amount;
    }

    // ---- the network

    public int nodes() {
        return network.nodes;
    }

    public int arcs() {
        return network.arcs;
    }

    public int capacity(int arc) throws IndexOutOfBoundsException {
        refuseOtherThanArc(arc);
        return network.capacity[arc];
    }

    public int price(int arc, int unit) throws IndexOutOfBoundsException {
        refuseOtherThanArc(arc);
        if (unit < 1 || unit > network.capacity[arc]) {
            throw new IndexOutOfBoundsException();
        }
        return network.unitPrice(arc, unit);
    }

    // ---- cheapest flows

    public int most() {
        return cheapest.greatestAmount(source, target);
    }

    public int cost() {
        if (!cheapest.meet(source, target, amount)) {
            return NONE;
        }
        return cheapest.totalPrice();
    }

    public int costByCircles() {
        return circles.leastPrice(source, target, amount);
    }

    public int more(int node) throws IndexOutOfBoundsException {
        refuseOtherThanNode(node);
        if (!cheapest.meet(source, target, amount)) {
            return NONE;
        }
        return cheapest.priceOfUnitMore(source, node);
    }

    public int flow(int arc) throws IndexOutOfBoundsException {
        refuseOtherThanArc(arc);
        if (!cheapest.meet(source, target, amount)) {
            return NONE;
        }
        cheapest.keepToCheapest();
        for (int earlier = 0; earlier < arc; earlier++) {
            cheapest.lower(earlier);
        }
        return cheapest.lower(arc);
    }

    public int leastOn(int arc) throws IndexOutOfBoundsException {
        refuseOtherThanArc(arc);
        if (!cheapest.meet(source, target, amount)) {
            return NONE;
        }
        cheapest.keepToCheapest();
        return cheapest.lower(arc);
    }

    public int mostOn(int arc) throws IndexOutOfBoundsException {
        refuseOtherThanArc(arc);
        if (!cheapest.meet(source, target, amount)) {
            return NONE;
        }
        cheapest.keepToCheapest();
        return cheapest.raise(arc);
    }

    // ---- drivers

    public int driven() {
        drivers.comeOneByOne(source, target, amount);
        return drivers.found < amount ? NONE : drivers.paidByAll;
    }

    public int drivenOn(int arc) throws IndexOutOfBoundsException {
        refuseOtherThanArc(arc);
        drivers.comeOneByOne(source, target, amount);
        return drivers.taken[arc];
    }

    public int lastPaid() {
        drivers.comeOneByOne(source, target, amount);
        return drivers.paidLast;
    }

    private void refuseOtherThanNode(int node) {
        if (node < 0 || node >= network.nodes) {
            throw new IndexOutOfBoundsException();
        }
    }

    private void refuseOtherThanArc(int arc) {
        if (arc < 0 || arc >= network.arcs) {
            throw new IndexOutOfBoundsException();
        }
    }

    private static boolean isNoWidth(int width) {
        return width < 1 || width > MOST_WIDTH;
    }

    /**
     * The arcs with the prices of their units. A step is an arc with a direction: step 2a goes along
     * arc a, step 2a + 1 goes against it, which gives a unit of it back.
     */
    private static final class Network {
        final int nodes;
        int arcs = 0;
        final int[] from = new int[MOST_ARCS];
        final int[] to = new int[MOST_ARCS];
        final int[] pieces = new int[MOST_ARCS];
        final int[] capacity = new int[MOST_ARCS];
        private final int[] prices = new int[ALL_UNITS];

        Network(int nodes) {
            this.nodes = nodes;
        }

        int addArc(int tail, int head, int width, int price) {
            int arc = arcs;
            if (arc >= MOST_ARCS) {
                return NONE;
            }
            from[arc] = tail;
            to[arc] = head;
            arcs++;
            addPiece(arc, width, price);
            return arc;
        }

        void addPiece(int arc, int width, int price) {
            for (int i = 0; i < width && capacity[arc] < MOST_UNITS; i++) {
                prices[arc * MOST_UNITS + capacity[arc]] = price;
                capacity[arc]++;
            }
            pieces[arc]++;
        }

        int unitPrice(int arc, int unit) {
            if (unit < 1 || unit > capacity[arc]) {
                return FAR;
            }
            return prices[arc * MOST_UNITS + unit - 1];
        }

        int lastPrice(int arc) {
            return unitPrice(arc, capacity[arc]);
        }

        int steps() {
            return 2 * arcs;
        }

        static int arcOf(int step) {
            return step >> 1;
        }

        static boolean goesAlong(int step) {
            return (step & 1) == 0;
        }

        int start(int step) {
            return goesAlong(step) ? from[arcOf(step)] : to[arcOf(step)];
        }

        int end(int step) {
            return goesAlong(step) ? to[arcOf(step)] : from[arcOf(step)];
        }
    }

    /**
     * A flow that is made the cheapest one unit by unit, each along the cheapest way of steps. Prices are
     * not below 0, so the empty flow is cheapest for the amount 0, and it stays so with every such way.
     */
    private static final class CheapestFlow {
        private final Network network;
        private final int[] on = new int[MOST_ARCS];
        private final int[] low = new int[MOST_ARCS];
        private final int[] high = new int[MOST_ARCS];
        private final int[] distance = new int[MOST_NODES];
        private final int[] cameBy = new int[MOST_NODES];

        CheapestFlow(Network network) {
            this.network = network;
        }

        boolean meet(int source, int target, int amount) {
            empty();
            for (int i = 0; i < amount; i++) {
                measureFrom(source);
                if (sendOnWay(source, target, 1) == 0) {
                    return false;
                }
            }
            return true;
        }

        int greatestAmount(int source, int target) {
            empty();
            return send(source, target, ALL_UNITS);
        }

        int totalPrice() {
            int sum = 0;
            for (int arc = 0; arc < network.arcs; arc++) {
                for (int unit = 1; unit <= on[arc]; unit++) {
                    sum += network.unitPrice(arc, unit);
                }
            }
            return sum;
        }

        int priceOfUnitMore(int source, int node) {
            measureFrom(source);
            return distance[node] < FAR ? distance[node] : NONE;
        }

        /**
         * Narrows the bounds of the arcs so that the flows within them are just the cheapest ones: with the
         * distances as what a unit is worth at a node, a unit that gains more than its price is in all of
         * them, one that gains less is in none.
         */
        void keepToCheapest() {
            measureFromAll();
            for (int arc = 0; arc < network.arcs; arc++) {
                int gain = distance[network.to[arc]] - distance[network.from[arc]];
                low[arc] = 0;
                high[arc] = 0;
                for (int unit = 1; unit <= network.capacity[arc]; unit++) {
                    int price = network.unitPrice(arc, unit);
                    low[arc] += price < gain ? 1 : 0;
                    high[arc] += price <= gain ? 1 : 0;
                }
            }
        }

        /** Brings the amount on an arc as far down as the bounds let, and holds it there. */
        int lower(int arc) {
            int spare = on[arc] - low[arc];
            hold(arc);
            on[arc] -= send(network.from[arc], network.to[arc], spare);
            hold(arc);
            return on[arc];
        }

        /** Brings the amount on an arc as far up as the bounds let, and holds it there. */
        int raise(int arc) {
            int spare = high[arc] - on[arc];
            hold(arc);
            on[arc] += send(network.to[arc], network.from[arc], spare);
            hold(arc);
            return on[arc];
        }

        private void hold(int arc) {
            low[arc] = on[arc];
            high[arc] = on[arc];
        }

        private void empty() {
            for (int arc = 0; arc < network.arcs; arc++) {
                on[arc] = 0;
                low[arc] = 0;
                high[arc] = network.capacity[arc];
            }
        }

        /** Sends up to so many units over any ways; returns how many went. */
        private int send(int first, int last, int limit) {
            int sent = 0;
            for (int ways = 0; ways < limit && sent < limit; ways++) {
                spreadFrom(first);
                int more = sendOnWay(first, last, limit - sent);
                if (more == 0) {
                    return sent;
                }
                sent += more;
            }
            return sent;
        }

        /** Sends up to so many units over the way that was found last; returns how many went, 0 without a way. */
        private int sendOnWay(int first, int last, int limit) {
            int units = Math.min(limit, roomOnWay(first, last));
            int node = last;
            for (int hops = 0; hops < network.nodes && node != first && units > 0; hops++) {
                int step = cameBy[node];
                on[Network.arcOf(step)] += Network.goesAlong(step) ? units : -units;
                node = network.start(step);
            }
            return units;
        }

        private int roomOnWay(int first, int last) {
            int room = FAR;
            int node = last;
            for (int hops = 0; hops < network.nodes && node != first; hops++) {
                int step = cameBy[node];
                if (step == NONE) {
                    return 0;
                }
                room = Math.min(room, roomOf(step));
                node = network.start(step);
            }
            return node == first ? room : 0;
        }

        private int roomOf(int step) {
            int arc = Network.arcOf(step);
            return Network.goesAlong(step) ? high[arc] - on[arc] : on[arc] - low[arc];
        }

        private int priceOf(int step) {
            int arc = Network.arcOf(step);
            return Network.goesAlong(step)
                    ? network.unitPrice(arc, on[arc] + 1)
                    : -network.unitPrice(arc, on[arc]);
        }

        private void measureFrom(int first) {
            for (int node = 0; node < network.nodes; node++) {
                distance[node] = node == first ? 0 : FAR;
                cameBy[node] = NONE;
            }
            measure();
        }

        private void measureFromAll() {
            for (int node = 0; node < network.nodes; node++) {
                distance[node] = 0;
                cameBy[node] = NONE;
            }
            measure();
        }

        /** The steps of a cheapest flow have no circle below 0, so that as many rounds as nodes are enough. */
        private void measure() {
            boolean changed = true;
            for (int round = 0; round < network.nodes && changed; round++) {
                changed = false;
                for (int step = 0; step < network.steps(); step++) {
                    changed |= shorten(step);
                }
            }
        }

        private boolean shorten(int step) {
            int start = network.start(step);
            int end = network.end(step);
            if (distance[start] >= FAR || roomOf(step) <= 0 || distance[start] + priceOf(step) >= distance[end]) {
                return false;
            }
            distance[end] = distance[start] + priceOf(step);
            cameBy[end] = step;
            return true;
        }

        private void spreadFrom(int first) {
            for (int node = 0; node < network.nodes; node++) {
                cameBy[node] = NONE;
            }
            boolean changed = true;
            for (int round = 0; round < network.nodes && changed; round++) {
                changed = false;
                for (int step = 0; step < network.steps(); step++) {
                    changed |= widen(first, step);
                }
            }
        }

        private boolean widen(int first, int step) {
            int start = network.start(step);
            int end = network.end(step);
            boolean known = start == first || cameBy[start] != NONE;
            if (!known || end == first || cameBy[end] != NONE || roomOf(step) <= 0) {
                return false;
            }
            cameBy[end] = step;
            return true;
        }
    }

    /**
     * The least price of the demand, found in another way: every unit of an arc stands for itself and is
     * taken or free; some flow is taken, and circles that make it cheaper are taken out of it.
     */
    private static final class UnitCircles {
        private final Network network;
        private final boolean[] taken = new boolean[ALL_UNITS];
        private final int[] distance = new int[MOST_NODES];
        private final int[] cameBy = new int[MOST_NODES];

        UnitCircles(Network network) {
            this.network = network;
        }

        int leastPrice(int source, int target, int amount) {
            for (int unit = 0; unit < ALL_UNITS; unit++) {
                taken[unit] = false;
            }
            for (int i = 0; i < amount; i++) {
                if (!takeWay(source, target)) {
                    return NONE;
                }
            }
            takeOutCircles();
            return priceOfTaken();
        }

        private boolean takeWay(int source, int target) {
            for (int node = 0; node < network.nodes; node++) {
                distance[node] = node == source ? 0 : FAR;
                cameBy[node] = NONE;
            }
            boolean changed = true;
            for (int round = 0; round < network.nodes && changed; round++) {
                changed = shortenAll(false) != NONE;
            }
            if (distance[target] >= FAR) {
                return false;
            }
            turnBack(target, source);
            return true;
        }

        /** Each circle takes at least 1 off the price of the flow, so that their number has a bound. */
        private void takeOutCircles() {
            boolean cheaper = true;
            for (int i = 0; i < ALL_UNITS * MOST_PRICE && cheaper; i++) {
                cheaper = takeOutCircle();
            }
        }

        private boolean takeOutCircle() {
            for (int node = 0; node < network.nodes; node++) {
                distance[node] = 0;
                cameBy[node] = NONE;
            }
            int changed = 0;
            for (int round = 0; round < network.nodes && changed != NONE; round++) {
                changed = shortenAll(true);
            }
            // A node that still changes after so many rounds was come to from a circle below 0.
            for (int hops = 0; hops < network.nodes && changed != NONE; hops++) {
                changed = nodeBefore(changed);
            }
            if (changed == NONE || nodeBefore(changed) == NONE) {
                return false;
            }
            int before = cameBy[changed];
            int node = nodeBefore(changed);
            taken[before] = !taken[before];
            turnBack(node, changed);
            return true;
        }

        /** One round over all units, with their prices or, for ways of any price, with none; a changed node. */
        private int shortenAll(boolean priced) {
            int changed = NONE;
            for (int arc = 0; arc < network.arcs; arc++) {
                for (int number = 1; number <= network.capacity[arc]; number++) {
                    int unit = arc * MOST_UNITS + number - 1;
                    int start = taken[unit] ? network.to[arc] : network.from[arc];
                    int end = taken[unit] ? network.from[arc] : network.to[arc];
                    int price = priced ? network.unitPrice(arc, number) : 0;
                    int reached = distance[start] + (taken[unit] ? -price : price);
                    if (distance[start] < FAR && reached < distance[end]) {
                        distance[end] = reached;
                        cameBy[end] = unit;
                        changed = end;
                    }
                }
            }
            return changed;
        }

        /** Takes what is free and frees what is taken, backwards from a node over where it was come from. */
        private void turnBack(int last, int first) {
            int node = last;
            for (int hops = 0; hops < network.nodes && node != first; hops++) {
                int unit = cameBy[node];
                int before = nodeBefore(node);
                if (before == NONE) {
                    return;
                }
                taken[unit] = !taken[unit];
                node = before;
            }
        }

        private int nodeBefore(int node) {
            int unit = cameBy[node];
            if (unit == NONE) {
                return NONE;
            }
            int arc = unit / MOST_UNITS;
            return taken[unit] ? network.to[arc] : network.from[arc];
        }

        private int priceOfTaken() {
            int sum = 0;
            for (int arc = 0; arc < network.arcs; arc++) {
                for (int number = 1; number <= network.capacity[arc]; number++) {
                    if (taken[arc * MOST_UNITS + number - 1]) {
                        sum += network.unitPrice(arc, number);
                    }
                }
            }
            return sum;
        }
    }

    /** Drivers who come one by one and leave taken what they took. */
    private static final class Drivers {
        /** What a price weighs against one arc more on the way: a way has fewer arcs than this. */
        private static final int PRICE_WEIGHT = 16;

        private final Network network;
        final int[] taken = new int[MOST_ARCS];
        private final int[] weightToTarget = new int[MOST_NODES];
        int found = 0;
        int paidByAll = 0;
        int paidLast = NONE;

        Drivers(Network network) {
            this.network = network;
        }

        void comeOneByOne(int source, int target, int amount) {
            for (int arc = 0; arc < network.arcs; arc++) {
                taken[arc] = 0;
            }
            found = 0;
            paidByAll = 0;
            paidLast = NONE;
            for (int i = 0; i < amount; i++) {
                weighWaysTo(target);
                if (weightToTarget[source] >= FAR) {
                    return;
                }
                paidLast = drive(source, target);
                paidByAll += paidLast;
                found++;
            }
        }

        private void weighWaysTo(int target) {
            for (int node = 0; node < network.nodes; node++) {
                weightToTarget[node] = node == target ? 0 : FAR;
            }
            boolean changed = true;
            for (int round = 0; round < network.nodes && changed; round++) {
                changed = false;
                for (int arc = 0; arc < network.arcs; arc++) {
                    int weight = weightBy(arc);
                    if (weight < weightToTarget[network.from[arc]]) {
                        weightToTarget[network.from[arc]] = weight;
                        changed = true;
                    }
                }
            }
        }

        /** The weight of the best way to the target that begins with an arc. */
        private int weightBy(int arc) {
            if (taken[arc] >= network.capacity[arc] || weightToTarget[network.to[arc]] >= FAR) {
                return FAR;
            }
            return nextPrice(arc) * PRICE_WEIGHT + 1 + weightToTarget[network.to[arc]];
        }

        /** Takes at each node the lowest arc that begins a best way, and returns what the way costs. */
        private int drive(int source, int target) {
            int paid = 0;
            int node = source;
            for (int hops = 0; hops < network.nodes && node != target; hops++) {
                int arc = bestArcFrom(node);
                if (arc == NONE) {
                    return paid;
                }
                paid += nextPrice(arc);
                node = network.to[arc];
                taken[arc]++;
            }
            return paid;
        }

        private int bestArcFrom(int node) {
            for (int arc = 0; arc < network.arcs; arc++) {
                if (network.from[arc] == node && weightBy(arc) == weightToTarget[node]) {
                    return arc;
                }
            }
            return NONE;
        }

        private int nextPrice(int arc) {
            return network.unitPrice(arc, taken[arc] + 1);
        }
    }
}
