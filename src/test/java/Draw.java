import java.util.Random;

/**
 * Draws calls by a seed, with regard to what a model says of the object that
 * they are for. Each seed has habits of its own, so that other things come to
 * meet: many loads fill the buffers, many maps and unmaps the store-rooms.
 */
final class Draw {
    static final int LOWEST = Integer.MIN_VALUE;
    static final int HIGHEST = Integer.MAX_VALUE;
    static final String[] ORDERS = {"load", "store", "map", "unmap", "protect", "move"};
    // How often each kind of order comes: all alike, or many loads, maps, unmaps or moves.
    private static final int[][] WEIGHTS = {
        {1, 1, 1, 1, 1, 1}, {16, 6, 5, 1, 1, 1}, {1, 1, 12, 1, 1, 1}, {2, 2, 6, 6, 2, 1}, {2, 1, 2, 1, 1, 4}
    };
    private static final int[] ODD = {-1, 4, 5, 8, 10, 16, 17, 1000, LOWEST, HIGHEST, HIGHEST - 2};

    private final Random random;
    private final Model m;
    private final int threads;
    private final int threadShare;
    private final int processors;
    private final int pages;
    private final int mostPages;
    private final int effort;
    private final int stepShare;
    private final int runShare;
    private final int[] weights;

    Draw(int seed, Model m) {
        random = new Random(seed);
        this.m = m;
        threads = percent(40) ? 8 : 1 + below(8);
        threadShare = 10 + below(60);
        processors = 1 + below(4);
        pages = 4 + below(13);
        mostPages = 1 + below(4);
        effort = below(6);
        stepShare = 40 + below(55);
        runShare = 10 + below(60);
        weights = WEIGHTS[below(WEIGHTS.length)];
    }

    /** One of 0 .. bound - 1. */
    int below(int bound) {
        return random.nextInt(bound);
    }

    int one(int... numbers) {
        return numbers[random.nextInt(numbers.length)];
    }

    boolean percent(int share) {
        return random.nextInt(100) < share;
    }

    /** A new thread, an order of a thread or steps; an eleventh order may come, all else is right. */
    Call call() {
        int made = m.threads.size();
        if (made < threads && percent(threadShare)) {
            return new Call("thread", below(processors));
        }
        if (made == 0 || percent(stepShare)) {
            return percent(runShare) ? new Call("run", random.nextInt(), 1 + below(16)) : new Call("step", processor());
        }
        return order(kind(), below(made));
    }

    /** Mostly one of those that have threads from the beginning, so that they come far. */
    private int processor() {
        return below(percent(20) ? 4 : processors);
    }

    private String kind() {
        int all = 0;
        for (int weight : weights) {
            all += weight;
        }
        int drawn = below(all);
        int kind = 0;
        while (drawn >= weights[kind]) {
            drawn -= weights[kind];
            kind++;
        }
        return ORDERS[kind];
    }

    /** An order with which nothing is wrong but, maybe, the thread. */
    Call order(String method, int t) {
        int n = 1 + below(mostPages);
        int page = page(method.equals("map"), n);
        return switch (method) {
            case "load" -> new Call("load", t, page);
            case "store" -> new Call("store", t, page, below(1000));
            case "map" -> new Call("map", t, page, n, percent(75) ? 1 : 0);
            case "move" -> new Call("move", t, processor());
            default -> new Call(method, t, page, n);
        };
    }

    /** Some seeds look for pages with which the order will do something. */
    private int page(boolean maps, int n) {
        int page = below(pages - n + 1);
        for (int i = 0; i < effort && maps == m.table.containsKey(page); i++) {
            page = below(pages - n + 1);
        }
        return page;
    }

    Call question() {
        int p = below(4);
        return switch (below(11)) {
            case 0 -> new Call("result", below(8), below(10));
            case 1 -> new Call("current", p);
            case 2 -> new Call("phase", p);
            case 3 -> new Call("queued", p, below(5));
            case 4 -> new Call("mail", p);
            case 5 -> new Call("table", below(pages));
            case 6 -> new Call("translation", below(processors), below(pages));
            case 7 -> new Call("word", below(10));
            case 8 -> new Call("spare", below(5));
            case 9 -> new Call("tickets");
            default -> new Call("steps");
        };
    }

    /** The same call with one argument, if it has any, that may well be wrong. */
    Call spoiled(Call call) {
        int[] arguments = call.arguments().clone();
        if (arguments.length > 0) {
            arguments[below(arguments.length)] = one(ODD);
        }
        return new Call(call.method(), arguments);
    }
}
