import java.util.ArrayDeque;
import java.util.ArrayList;
import java.util.Deque;
import java.util.LinkedHashMap;
import java.util.List;
import java.util.Map;
import java.util.TreeMap;

/**
 * The document told a second time, with the Java library's collections and
 * with no regard for room or speed; ModelTest holds the class against it.
 */
final class Model {
    static final int NONE = -1;
    static final int FAULT = -2;
    static final int REFUSED = -3;

    enum Kind { LOAD, STORE, MAP, UNMAP, PROTECT, MOVE }

    static final class Order {
        Kind kind;
        int page;
        int n = 1;
        int value;
        boolean writable;
        int target;
        int phase;
        int ticket;
        int owed = 0;
        List<Integer> pagesToDo = new ArrayList<>();
        List<Integer> processorsToDo = new ArrayList<>(List.of(0, 1, 2, 3));
        Deque<Integer> kept = new ArrayDeque<>();
        int count = 0;
        Integer willBe = null;
        Integer result = null;

        boolean covers(int p) {
            return page <= p && p <= page + n - 1;
        }
    }

    static final class Thread {
        int parkedAt;
        List<Order> orders = new ArrayList<>();

        Order first() {
            for (Order o : orders) {
                if (o.result == null) {
                    return o;
                }
            }
            return null;
        }
    }

    static final class Frame {
        int number;
        boolean writable;

        Frame(int number, boolean writable) {
            this.number = number;
            this.writable = writable;
        }

        int told() {
            return 2 * number + (writable ? 1 : 0);
        }
    }

    static final class Processor {
        Map<Integer, Frame> buffer = new LinkedHashMap<>();
        Deque<Integer> storeRoom = new ArrayDeque<>();
        Deque<Order> mailbox = new ArrayDeque<>();
        List<Thread> queue = new ArrayList<>();
        Thread current = null;
    }

    final List<Thread> threads = new ArrayList<>();
    final List<Processor> processors = new ArrayList<>();
    final Deque<Integer> pool = new ArrayDeque<>();
    final Map<Integer, Integer> words = new TreeMap<>();
    final Map<Integer, Frame> table = new TreeMap<>();
    final List<Integer> entered = new ArrayList<>();
    int next = 0;
    int serving = 0;
    int steps = 0;

    Model() {
        for (int p = 0; p < 4; p++) {
            processors.add(new Processor());
        }
        for (int f = 0; f <= 9; f++) {
            pool.add(f);
            words.put(f, 0);
        }
    }

    int thread(int processor) {
        if (!processor(processor) || threads.size() == 8) {
            return NONE;
        }
        Thread t = new Thread();
        t.parkedAt = processor;
        threads.add(t);
        return threads.size() - 1;
    }

    int order(Kind kind, int thread, int page, int n, int value, boolean writable, int target) {
        if (thread < 0 || thread >= threads.size()) {
            return NONE;
        }
        Thread t = threads.get(thread);
        boolean moves = kind == Kind.MOVE;
        if (t.orders.size() == 10
                || (!moves && (n < 1 || n > 4 || page < 0 || (long) page + n - 1 > 15))
                || (kind == Kind.STORE && (value < 0 || value > 999))
                || (moves && !processor(target))) {
            return NONE;
        }
        boolean parked = t.first() == null;
        Order o = new Order();
        o.kind = kind;
        o.page = page;
        o.n = n;
        o.value = value;
        o.writable = writable;
        o.target = target;
        o.phase = moves ? 15 : kind == Kind.LOAD || kind == Kind.STORE ? 4 : 7;
        for (int i = page; i < page + n && !moves; i++) {
            o.pagesToDo.add(i);
        }
        t.orders.add(o);
        if (parked) {
            processors.get(t.parkedAt).queue.add(t);
        }
        return t.orders.size() - 1;
    }

    int step(int p) {
        if (!processor(p)) {
            return NONE;
        }
        steps++;
        Processor own = processors.get(p);
        if (!own.mailbox.isEmpty()) {
            Order sender = own.mailbox.removeFirst();
            own.buffer.keySet().removeIf(sender::covers);
            sender.owed--;
            return 1;
        }
        if (own.current == null) {
            return fetch(own);
        }
        Order o = own.current.first();
        int code = o.phase;
        o.result = phaseResult(o, own, p);
        if (o.result == null) {
            return code;
        }
        ended(own.current, o, own, p);
        return code + 16;
    }

    private int fetch(Processor own) {
        if (!own.queue.isEmpty()) {
            own.current = own.queue.remove(0);
            return 2;
        }
        int most = 0;
        for (Processor other : processors) {
            most = Math.max(most, other.queue.size());
        }
        if (most < 2) {
            return 0;
        }
        for (Processor other : processors) {
            if (other.queue.size() == most) {
                own.current = other.queue.remove(most - 1);
                return 3;
            }
        }
        return 0;
    }

    private void ended(Thread t, Order o, Processor own, int p) {
        boolean further = t.first() != null;
        if (o.kind == Kind.MOVE) {
            own.current = null;
            if (further) {
                processors.get(o.target).queue.add(t);
            } else {
                t.parkedAt = o.target;
            }
        } else if (!further) {
            own.current = null;
            t.parkedAt = p;
        } else if (!own.queue.isEmpty()) {
            own.current = null;
            own.queue.add(t);
        }
    }

    /** The result if the phase finishes the order, else null. */
    private Integer phaseResult(Order o, Processor own, int p) {
        if (o.phase == 4) {
            Frame f = own.buffer.get(o.page);
            if (f == null) {
                o.phase = 5;
                return null;
            }
            if (o.kind == Kind.LOAD) {
                return words.get(f.number);
            }
            return f.writable ? words.put(f.number, o.value) : Integer.valueOf(FAULT);
        }
        if (o.phase == 5) {
            if (!entered.contains(o.page / 4)) {
                return FAULT;
            }
            o.phase = 6;
            return null;
        }
        if (o.phase == 6) {
            Frame f = table.get(o.page);
            if (f == null || o.kind == Kind.STORE && !f.writable) {
                return FAULT;
            }
            if (own.buffer.size() == 3) {
                own.buffer.remove(own.buffer.keySet().iterator().next());
            }
            own.buffer.put(o.page, new Frame(f.number, f.writable));
            o.phase = 4;
            return null;
        }
        if (o.phase == 14) {
            serving++;
            return o.willBe;
        }
        if (o.phase == 15) {
            return 0;
        }
        lockPhase(o, own, p);
        return null;
    }

    private void lockPhase(Order o, Processor own, int p) {
        switch (o.phase) {
            case 7:
                o.ticket = next++;
                o.phase = 8;
                break;
            case 8:
                if (serving == o.ticket) {
                    o.phase = o.kind == Kind.MAP ? 9 : 10;
                }
                break;
            case 9:
                boolean taken = table.keySet().stream().anyMatch(o::covers);
                boolean few = own.storeRoom.size() + pool.size() < o.n;
                o.phase = taken || few ? 14 : 10;
                o.willBe = REFUSED;
                break;
            case 10:
                change(o, own, o.pagesToDo.remove(0));
                break;
            case 11:
                int to = o.processorsToDo.remove(0);
                if (to == p) {
                    own.buffer.keySet().removeIf(o::covers);
                } else {
                    processors.get(to).mailbox.addLast(o);
                    o.owed++;
                }
                o.phase = o.processorsToDo.isEmpty() ? 12 : 11;
                break;
            case 12:
                if (o.owed == 0) {
                    o.phase = o.kind == Kind.UNMAP ? 13 : 14;
                }
                break;
            default:
                int frame = o.kept.removeFirst();
                if (own.storeRoom.size() < 2) {
                    own.storeRoom.addLast(frame);
                } else {
                    pool.addLast(frame);
                }
                o.phase = o.kept.isEmpty() ? 14 : 13;
                break;
        }
    }

    private void change(Order o, Processor own, int page) {
        Frame had = table.get(page);
        if (o.kind == Kind.MAP) {
            int f = own.storeRoom.isEmpty() ? pool.removeFirst() : own.storeRoom.removeLast();
            words.put(f, 0);
            table.put(page, new Frame(f, o.writable));
            entered.add(page / 4);
            o.count++;
        } else if (o.kind == Kind.UNMAP && had != null) {
            table.remove(page);
            o.kept.addLast(had.number);
            o.count++;
        } else if (o.kind == Kind.PROTECT && had != null && had.writable) {
            had.writable = false;
            o.count++;
        }
        o.willBe = o.count;
        if (o.pagesToDo.isEmpty()) {
            o.phase = o.kind != Kind.MAP && o.count > 0 ? 11 : 14;
        }
    }

    int run(int schedule, int n) {
        if (n < 1 || n > 16) {
            return NONE;
        }
        int finished = 0;
        long bits = schedule & 0xFFFFFFFFL;
        for (int i = 0; i < n; i++) {
            if (step((int) (bits % 4)) >= 16) {
                finished++;
            }
            bits /= 4;
        }
        return finished;
    }

    int result(int thread, int k) {
        if (thread < 0 || thread >= threads.size()) {
            return NONE;
        }
        List<Order> orders = threads.get(thread).orders;
        return k < 0 || k >= orders.size() || orders.get(k).result == null ? NONE : orders.get(k).result;
    }

    int current(int p) {
        return processor(p) ? threads.indexOf(processors.get(p).current) : NONE;
    }

    int phase(int p) {
        return current(p) == NONE ? NONE : processors.get(p).current.first().phase;
    }

    int queued(int p, int k) {
        if (!processor(p) || k < 0 || k >= processors.get(p).queue.size()) {
            return NONE;
        }
        return threads.indexOf(processors.get(p).queue.get(k));
    }

    int mail(int p) {
        return processor(p) ? processors.get(p).mailbox.size() : NONE;
    }

    int table(int page) {
        return table.containsKey(page) ? table.get(page).told() : NONE;
    }

    int translation(int p, int page) {
        Frame f = processor(p) ? processors.get(p).buffer.get(page) : null;
        return f == null ? NONE : f.told();
    }

    int word(int frame) {
        return words.getOrDefault(frame, NONE);
    }

    int spare(int where) {
        return where == 4 ? pool.size() : processor(where) ? processors.get(where).storeRoom.size() : NONE;
    }

    int tickets() {
        return next - serving;
    }

    int steps() {
        return steps;
    }

    private static boolean processor(int p) {
        return 0 <= p && p <= 3;
    }
}
