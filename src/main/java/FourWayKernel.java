/** The kernel of a machine with four processors, stepped by hand; see DOC.md. */
public final class FourWayKernel {
    public static final int NONE = -1;
    public static final int FAULT = -2;
    public static final int REFUSED = -3;

    private static final int PROCESSORS = 4;
    private static final int PAGES = 16;
    private static final int GROUP_PAGES = 4;
    private static final int FRAMES = 10;
    private static final int WORD_LIMIT = 1000;
    private static final int MOST_THREADS = 8;
    private static final int MOST_ORDERS = 10;
    private static final int MOST_RANGE_PAGES = 4;
    private static final int MOST_TRANSLATIONS = 3;
    private static final int MOST_STORED_FRAMES = 2;
    private static final int MOST_RUN_STEPS = 16;

    // Codes of the micro-steps that are no phase of an order.
    private static final int IDLED = 0;
    private static final int ANSWERED = 1;
    private static final int TOOK_OWN_THREAD = 2;
    private static final int TOOK_OTHERS_THREAD = 3;

    // Phases, by the codes that the document gives them.
    private static final int LOOK = 4;
    private static final int TOP = 5;
    private static final int LEAF = 6;
    private static final int TICKET = 7;
    private static final int WAIT = 8;
    private static final int CHECK = 9;
    private static final int CHANGE = 10;
    private static final int SEND = 11;
    private static final int AWAIT = 12;
    private static final int RELEASE = 13;
    private static final int UNLOCK = 14;
    private static final int MOVING = 15;

    private static final int FINISHED = 16;

    // Kinds of orders.
    private static final int LOAD = 0;
    private static final int STORE = 1;
    private static final int MAP = 2;
    private static final int UNMAP = 3;
    private static final int PROTECT = 4;
    private static final int MOVE = 5;

    private final Task[] tasks;
    private int taskCount;
    private final Processor[] processors;
    private final Line pool;
    private final int[] words;
    // Twice the frame, plus 1 if writable; NONE for a page that has no frame.
    private final int[] pageEntries;
    private final boolean[] enteredGroups;
    private int nextTicket;
    private int servingTicket;
    private int stepCount;

    public FourWayKernel() {
        tasks = new Task[MOST_THREADS];
        taskCount = 0;
        processors = new Processor[PROCESSORS];
        for (int p = 0; p < PROCESSORS; p++) {
            processors[p] = new Processor(p);
        }
        pool = new Line(FRAMES);
        for (int frame = 0; frame < FRAMES; frame++) {
            pool.addLast(frame);
        }
        words = new int[FRAMES];
        pageEntries = new int[PAGES];
        for (int page = 0; page < PAGES; page++) {
            pageEntries[page] = NONE;
        }
        enteredGroups = new boolean[PAGES / GROUP_PAGES];
        nextTicket = 0;
        servingTicket = 0;
        stepCount = 0;
    }

    public int thread(int processor) {
        if (!isProcessor(processor) || taskCount >= MOST_THREADS) {
            return NONE;
        }
        int number = taskCount;
        tasks[number] = new Task(number, processor);
        taskCount++;
        return number;
    }

    public int load(int thread, int page) {
        return isRange(page, 1) ? addOrder(thread, LOAD, page, 1, 0) : NONE;
    }

    public int store(int thread, int page, int value) {
        boolean right = isRange(page, 1) && value >= 0 && value < WORD_LIMIT;
        return right ? addOrder(thread, STORE, page, 1, value) : NONE;
    }

    public int map(int thread, int page, int n, boolean writable) {
        return isRange(page, n) ? addOrder(thread, MAP, page, n, writable ? 1 : 0) : NONE;
    }

    public int unmap(int thread, int page, int n) {
        return isRange(page, n) ? addOrder(thread, UNMAP, page, n, 0) : NONE;
    }

    public int protect(int thread, int page, int n) {
        return isRange(page, n) ? addOrder(thread, PROTECT, page, n, 0) : NONE;
    }

    public int move(int thread, int processor) {
        return isProcessor(processor) ? addOrder(thread, MOVE, 0, 0, processor) : NONE;
    }

    public int step(int processor) {
        return isProcessor(processor) ? microStep(processors[processor]) : NONE;
    }

    public int run(int schedule, int n) {
        if (n < 1 || n > MOST_RUN_STEPS) {
            return NONE;
        }
        int finished = 0;
        for (int i = 0; i < n; i++) {
            int processor = (schedule >>> (2 * i)) & (PROCESSORS - 1);
            if (microStep(processors[processor]) >= FINISHED) {
                finished++;
            }
        }
        return finished;
    }

    public int result(int thread, int k) {
        Task task = findTask(thread);
        return task == null ? NONE : task.resultOf(k);
    }

    public int current(int processor) {
        return isProcessor(processor) ? processors[processor].running : NONE;
    }

    public int phase(int processor) {
        Task task = findTask(current(processor));
        return task == null ? NONE : task.phase;
    }

    public int queued(int processor, int k) {
        return isProcessor(processor) ? processors[processor].queue.at(k) : NONE;
    }

    public int mail(int processor) {
        return isProcessor(processor) ? processors[processor].mailbox.count : NONE;
    }

    public int table(int page) {
        return isRange(page, 1) ? pageEntries[page] : NONE;
    }

    public int translation(int processor, int page) {
        return isProcessor(processor) ? processors[processor].buffer.entryOf(page) : NONE;
    }

    public int word(int frame) {
        return frame >= 0 && frame < FRAMES ? words[frame] : NONE;
    }

    public int spare(int where) {
        if (where == PROCESSORS) {
            return pool.count;
        }
        return isProcessor(where) ? processors[where].storeRoom.count : NONE;
    }

    public int tickets() {
        return nextTicket - servingTicket;
    }

    public int steps() {
        return stepCount;
    }

    private static boolean isProcessor(int processor) {
        return processor >= 0 && processor < PROCESSORS;
    }

    // The bound on page is a difference, since page + n could wrap around.
    private static boolean isRange(int page, int n) {
        return n >= 1 && n <= MOST_RANGE_PAGES && page >= 0 && page <= PAGES - n;
    }

    private Task findTask(int number) {
        return number >= 0 && number < taskCount ? tasks[number] : null;
    }

    private int addOrder(int thread, int kind, int page, int n, int argument) {
        Task task = findTask(thread);
        if (task == null || task.orderCount >= MOST_ORDERS) {
            return NONE;
        }
        boolean parked = task.firstUnfinished() == null;
        int number = task.append(new Order(kind, page, n, argument));
        if (parked) {
            task.beginOrder();
            processors[task.home].queue.addLast(task.number);
        }
        return number;
    }

    private int microStep(Processor own) {
        stepCount++;
        if (own.mailbox.count > 0) {
            answerRequest(own);
            return ANSWERED;
        }
        Task task = findTask(own.running);
        Order order = task == null ? null : task.firstUnfinished();
        if (order == null) {
            return takeThread(own);
        }
        int code = task.phase;
        if (!makePhase(task, order, own)) {
            return code;
        }
        finishOrder(task, order, own);
        return code + FINISHED;
    }

    // A request is the sender's number alone: until it is answered, the order
    // that sent it stays its thread's first unfinished one and has the range.
    private void answerRequest(Processor own) {
        Task sender = findTask(own.mailbox.takeFirst());
        Order order = sender == null ? null : sender.firstUnfinished();
        if (order != null) {
            own.buffer.dropRange(order.page, order.n);
            sender.owed--;
        }
    }

    private int takeThread(Processor own) {
        if (own.queue.count > 0) {
            own.running = own.queue.takeFirst();
            return TOOK_OWN_THREAD;
        }
        Line longest = longestQueue();
        if (longest.count < 2) {
            return IDLED;
        }
        own.running = longest.takeLast();
        return TOOK_OTHERS_THREAD;
    }

    private Line longestQueue() {
        Line longest = processors[0].queue;
        for (int p = 1; p < PROCESSORS; p++) {
            if (processors[p].queue.count > longest.count) {
                longest = processors[p].queue;
            }
        }
        return longest;
    }

    private void finishOrder(Task task, Order order, Processor own) {
        order.result = task.outcome;
        task.doneCount++;
        boolean further = task.firstUnfinished() != null;
        if (further) {
            task.beginOrder();
        }
        boolean moves = order.kind == MOVE;
        if (further && !moves && own.queue.count == 0) {
            return;
        }
        own.running = NONE;
        task.home = moves ? order.argument : own.number;
        if (further) {
            processors[task.home].queue.addLast(task.number);
        }
    }

    // Each phase answers whether it finished the order; the result is then
    // the task's outcome.
    private boolean makePhase(Task task, Order order, Processor own) {
        switch (task.phase) {
            case LOOK:
                return lookIntoBuffer(task, order, own);
            case TOP:
                return lookIntoTop(task, order);
            case LEAF:
                return lookIntoLeaf(task, order, own);
            case TICKET:
                drawTicket(task);
                return false;
            case WAIT:
                waitForLock(task, order);
                return false;
            case CHECK:
                checkMap(task, order, own);
                return false;
            case CHANGE:
                changePage(task, order, own);
                return false;
            case SEND:
                sendRequest(task, order, own);
                return false;
            case AWAIT:
                awaitAnswers(task, order);
                return false;
            case RELEASE:
                releaseFrame(task, own);
                return false;
            case UNLOCK:
                servingTicket++;
                return true;
            default:
                // MOVING does nothing itself: where the thread goes is settled
                // when the order is finished.
                return true;
        }
    }

    private boolean lookIntoBuffer(Task task, Order order, Processor own) {
        int entry = own.buffer.entryOf(order.page);
        if (entry == NONE) {
            task.phase = TOP;
            return false;
        }
        if (order.kind == STORE && !isWritable(entry)) {
            task.outcome = FAULT;
            return true;
        }
        int frame = frameOf(entry);
        task.outcome = words[frame];
        if (order.kind == STORE) {
            words[frame] = order.argument;
        }
        return true;
    }

    private boolean lookIntoTop(Task task, Order order) {
        if (!enteredGroups[order.page / GROUP_PAGES]) {
            task.outcome = FAULT;
            return true;
        }
        task.phase = LEAF;
        return false;
    }

    private boolean lookIntoLeaf(Task task, Order order, Processor own) {
        int entry = pageEntries[order.page];
        if (entry == NONE || (order.kind == STORE && !isWritable(entry))) {
            task.outcome = FAULT;
            return true;
        }
        own.buffer.putLatest(order.page, entry);
        task.phase = LOOK;
        return false;
    }

    private void drawTicket(Task task) {
        task.ticket = nextTicket;
        nextTicket++;
        task.phase = WAIT;
    }

    private void waitForLock(Task task, Order order) {
        if (servingTicket == task.ticket) {
            task.phase = order.kind == MAP ? CHECK : CHANGE;
        }
    }

    private void checkMap(Task task, Order order, Processor own) {
        boolean enough = own.storeRoom.count + pool.count >= order.n;
        if (enough && isUnmapped(order.page, order.n)) {
            task.phase = CHANGE;
        } else {
            task.outcome = REFUSED;
            task.phase = UNLOCK;
        }
    }

    private boolean isUnmapped(int first, int n) {
        for (int page = first; page < first + n; page++) {
            if (pageEntries[page] != NONE) {
                return false;
            }
        }
        return true;
    }

    private void changePage(Task task, Order order, Processor own) {
        int page = order.page + task.turn;
        boolean changed;
        if (order.kind == MAP) {
            changed = mapPage(page, order.argument, own);
        } else if (order.kind == UNMAP) {
            changed = unmapPage(page, task);
        } else {
            changed = protectPage(page);
        }
        if (changed) {
            task.outcome++;
        }
        task.turn++;
        if (task.turn >= order.n) {
            boolean revoked = order.kind != MAP && task.outcome > 0;
            task.beginPhase(revoked ? SEND : UNLOCK);
        }
    }

    private boolean mapPage(int page, int writableBit, Processor own) {
        int frame = own.storeRoom.count > 0 ? own.storeRoom.takeLast() : pool.takeFirst();
        if (frame == NONE) {
            return false;
        }
        words[frame] = 0;
        pageEntries[page] = 2 * frame + writableBit;
        enteredGroups[page / GROUP_PAGES] = true;
        return true;
    }

    private boolean unmapPage(int page, Task task) {
        int entry = pageEntries[page];
        if (entry == NONE) {
            return false;
        }
        pageEntries[page] = NONE;
        task.kept.addLast(frameOf(entry));
        return true;
    }

    private boolean protectPage(int page) {
        int entry = pageEntries[page];
        if (entry == NONE || !isWritable(entry)) {
            return false;
        }
        pageEntries[page] = entry - 1;
        return true;
    }

    private void sendRequest(Task task, Order order, Processor own) {
        if (task.turn == own.number) {
            own.buffer.dropRange(order.page, order.n);
        } else {
            processors[task.turn].mailbox.addLast(task.number);
            task.owed++;
        }
        task.turn++;
        if (task.turn >= PROCESSORS) {
            task.beginPhase(AWAIT);
        }
    }

    private void awaitAnswers(Task task, Order order) {
        if (task.owed == 0) {
            task.phase = order.kind == UNMAP ? RELEASE : UNLOCK;
        }
    }

    private void releaseFrame(Task task, Processor own) {
        int frame = task.kept.takeFirst();
        if (own.storeRoom.count < MOST_STORED_FRAMES) {
            own.storeRoom.addLast(frame);
        } else {
            pool.addLast(frame);
        }
        if (task.kept.count == 0) {
            task.phase = UNLOCK;
        }
    }

    private static boolean isWritable(int entry) {
        return (entry & 1) == 1;
    }

    private static int frameOf(int entry) {
        return entry >> 1;
    }

    // A bounded line of numbers from 0 on. What would not fit is left out, but
    // the document's limits keep every line within its row.
    private static final class Line {
        private final int[] items;
        private int count;

        Line(int most) {
            items = new int[most];
            count = 0;
        }

        void addLast(int item) {
            if (count < items.length) {
                items[count] = item;
                count++;
            }
        }

        int at(int k) {
            return k >= 0 && k < count ? items[k] : NONE;
        }

        int takeFirst() {
            if (count == 0) {
                return NONE;
            }
            int first = items[0];
            count--;
            for (int i = 0; i < count; i++) {
                items[i] = items[i + 1];
            }
            return first;
        }

        int takeLast() {
            if (count == 0) {
                return NONE;
            }
            count--;
            return items[count];
        }
    }

    // Translations in the order in which they were put in; their entries are
    // written as those of the table.
    private static final class Buffer {
        private final int[] pages;
        private final int[] entries;
        private int count;

        Buffer() {
            pages = new int[MOST_TRANSLATIONS];
            entries = new int[MOST_TRANSLATIONS];
            count = 0;
        }

        int entryOf(int page) {
            for (int i = 0; i < count; i++) {
                if (pages[i] == page) {
                    return entries[i];
                }
            }
            return NONE;
        }

        void putLatest(int page, int entry) {
            if (count == MOST_TRANSLATIONS) {
                dropRange(pages[0], 1);
            }
            if (count < MOST_TRANSLATIONS) {
                pages[count] = page;
                entries[count] = entry;
                count++;
            }
        }

        void dropRange(int first, int n) {
            int kept = 0;
            for (int i = 0; i < count; i++) {
                if (pages[i] < first || pages[i] >= first + n) {
                    pages[kept] = pages[i];
                    entries[kept] = entries[i];
                    kept++;
                }
            }
            count = kept;
        }
    }

    private static final class Processor {
        private final int number;
        private final Buffer buffer;
        private final Line storeRoom;
        private final Line mailbox;
        private final Line queue;
        private int running;

        Processor(int number) {
            this.number = number;
            buffer = new Buffer();
            storeRoom = new Line(MOST_STORED_FRAMES);
            mailbox = new Line(MOST_THREADS);
            queue = new Line(MOST_THREADS);
            running = NONE;
        }
    }

    private static final class Order {
        private final int kind;
        private final int page;
        private final int n;
        // STORE: the value; MAP: 1 if writable, else 0; MOVE: the processor.
        private final int argument;
        private int result;

        Order(int kind, int page, int n, int argument) {
            this.kind = kind;
            this.page = page;
            this.n = n;
            this.argument = argument;
            result = NONE;
        }

        int firstPhase() {
            if (kind == MOVE) {
                return MOVING;
            }
            return kind == LOAD || kind == STORE ? LOOK : TICKET;
        }
    }

    // A thread of the document. How far its first unfinished order has come
    // stands here, not in the order, since no other order of it has begun.
    private static final class Task {
        private final int number;
        private final Order[] orders;
        private int orderCount;
        private int doneCount;
        // Where the thread is parked, when it is.
        private int home;
        private int phase;
        // How often a phase that is done several times has been done.
        private int turn;
        private int ticket;
        private int owed;
        private int outcome;
        private final Line kept;

        Task(int number, int home) {
            this.number = number;
            this.home = home;
            orders = new Order[MOST_ORDERS];
            kept = new Line(MOST_RANGE_PAGES);
            orderCount = 0;
            doneCount = 0;
            phase = NONE;
            turn = 0;
            ticket = NONE;
            owed = 0;
            outcome = 0;
        }

        int append(Order order) {
            if (orderCount >= MOST_ORDERS) {
                return NONE;
            }
            orders[orderCount] = order;
            orderCount++;
            return orderCount - 1;
        }

        Order firstUnfinished() {
            return doneCount < orderCount ? orders[doneCount] : null;
        }

        void beginOrder() {
            Order order = firstUnfinished();
            if (order != null) {
                outcome = 0;
                beginPhase(order.firstPhase());
            }
        }

        void beginPhase(int first) {
            phase = first;
            turn = 0;
        }

        int resultOf(int k) {
            if (k < 0 || k >= doneCount) {
                return NONE;
            }
            Order order = orders[k];
            return order == null ? NONE : order.result;
        }
    }
}
