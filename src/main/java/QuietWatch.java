/**
 * A watch over processes that send each other work. Two ways tell that all is done (a tree of those
 * that owe an answer, and a token on a ring), and probes tell who waits in a ring for ever.
 */
public final class QuietWatch {
    /** There is none. */
    public static final int NONE = -1;

    private static final int WORK = 1;
    private static final int ACK = 2;
    private static final int TOKEN = 3;
    private static final int REQUEST = 4;
    private static final int REPLY = 5;
    private static final int PROBE = 6;

    private static final int ROOT = 0;
    private static final int FEWEST_PROCESSES = 2;
    private static final int MOST_PROCESSES = 10;
    private static final int MOST_WORKS_IN_A_ROW = 20;
    private static final int MOST_OWED = 100;
    private static final int MOST_PROBINGS = 50;
    private static final int MOST_TURNS = 2000;

    private static final int TOKEN_SENT = 1;
    private static final int END_TOLD = 2;

    private final int processes;
    private final Worker[] workers;
    private final Row[] rows;
    private final Token token;
    private boolean started;
    private boolean treeTold;
    private boolean ringTold;
    private int wrongEnds;
    private int falseDeaths;
    private int deaths;
    private int received;

    public QuietWatch(int processes) {
        int most = Math.min(processes, MOST_PROCESSES);
        this.processes = Math.max(most, FEWEST_PROCESSES);
        this.workers = newWorkers(this.processes);
        this.rows = newRows(this.processes);
        this.token = new Token();
    }

    public boolean start() {
        if (started) {
            return false;
        }
        started = true;
        workers[ROOT].active = true;
        return true;
    }

    public boolean send(int p, int q) {
        Worker sender = workerAt(p);
        Row row = rowBetween(p, q);
        if (sender == null || row == null || !sender.isFree()) {
            return false;
        }
        if (row.works >= MOST_WORKS_IN_A_ROW || sender.owed >= MOST_OWED) {
            return false;
        }
        row.append(WORK);
        sender.owed++;
        sender.balance++;
        return true;
    }

    public boolean rest(int p) {
        Worker worker = workerAt(p);
        if (worker == null || !worker.isFree()) {
            return false;
        }
        worker.active = false;
        leaveTreeIfDone(p, worker);
        return true;
    }

    public int ask(int p, int mask) {
        Worker asker = workerAt(p);
        if (asker == null || !asker.isFree()) {
            return NONE;
        }
        int asked = mask & allOf(processes) & ~bitOf(p);
        if (asked == 0) {
            return NONE;
        }
        asker.waitsFor = asked;
        putToEach(p, asked, REQUEST);
        return Integer.bitCount(asked);
    }

    public boolean answer(int q, int p) {
        Worker answerer = workerAt(q);
        Worker asker = workerAt(p);
        if (answerer == null || asker == null) {
            return false;
        }
        if (answerer.isBlocked() || !holds(answerer.pending, p)) {
            return false;
        }
        answerer.pending &= ~bitOf(p);
        asker.repliesComing |= bitOf(q);
        put(q, p, REPLY);
        return true;
    }

    public int probe(int p) {
        Worker beginner = workerAt(p);
        if (beginner == null || !beginner.isBlocked() || beginner.probings >= MOST_PROBINGS) {
            return NONE;
        }
        beginner.probings++;
        putToEach(p, beginner.waitsFor, probeOf(p, beginner.probings));
        return beginner.probings;
    }

    public int pass(int p) {
        Worker holder = workerAt(p);
        if (holder == null || token.holder != p || holder.active || !started || ringTold) {
            return NONE;
        }
        if (p != ROOT) {
            token.collect(holder);
            giveToken(p, p - 1);
            return TOKEN_SENT;
        }
        if (token.showsEndTo(holder)) {
            ringTold = true;
            judgeEnd();
            return END_TOLD;
        }
        token.beginRound();
        holder.black = false;
        giveToken(ROOT, processes - 1);
        return TOKEN_SENT;
    }

    public int receive(int p, int q) {
        Row row = rowBetween(p, q);
        Worker receiver = workerAt(q);
        if (row == null || receiver == null || row.size == 0) {
            return NONE;
        }
        int content = row.takeFirst();
        received++;
        switch (kindOf(content)) {
            case WORK:
                takeWork(p, q, receiver);
                break;
            case ACK:
                receiver.owed--;
                leaveTreeIfDone(q, receiver);
                break;
            case TOKEN:
                token.holder = q;
                break;
            case REQUEST:
                receiver.pending |= bitOf(p);
                break;
            case REPLY:
                receiver.waitsFor &= ~bitOf(p);
                receiver.repliesComing &= ~bitOf(p);
                break;
            default:
                takeProbe(p, q, receiver, content);
                break;
        }
        return kindOf(content);
    }

    public int run(int n, int seed) {
        if (n < 0 || n > MOST_TURNS) {
            return NONE;
        }
        int done = 0;
        int drawn = seed;
        for (int turn = 0; turn < n; turn++) {
            drawn = drawn * 1103515245 + 12345;
            int k = (drawn >>> 16) % (processes * processes);
            int p = k / processes;
            int q = k % processes;
            int outcome = p == q ? pass(p) : receive(p, q);
            if (outcome != NONE) {
                done++;
            }
        }
        return done;
    }

    public int told(int p, int what) {
        Worker worker = workerAt(p);
        if (worker == null) {
            return NONE;
        }
        switch (what) {
            case 0:
                return oneIf(worker.active);
            case 1:
                return oneIf(worker.isBlocked());
            case 2:
                return oneIf(isInTree(p, worker));
            case 3:
                return worker.parent;
            case 4:
                return worker.owed;
            case 5:
                return worker.balance;
            case 6:
                return oneIf(worker.black);
            case 7:
                return oneIf(token.holder == p);
            case 8:
                return Integer.bitCount(worker.waitsFor);
            case 9:
                return Integer.bitCount(worker.pending);
            case 10:
                return worker.deaths;
            case 11:
                return worker.probings;
            default:
                return NONE;
        }
    }

    public boolean waits(int p, int q) {
        Worker waiter = workerAt(p);
        return waiter != null && workerAt(q) != null && holds(waiter.waitsFor, q);
    }

    public int message(int p, int q, int i, int what) {
        Row row = rowBetween(p, q);
        if (row == null || i < 0 || i >= row.size) {
            return NONE;
        }
        int content = row.at(i);
        if (what == 0) {
            return kindOf(content);
        }
        if (kindOf(content) != PROBE) {
            return NONE;
        }
        if (what == 1) {
            return beginnerOf(content);
        }
        return what == 2 ? numberOf(content) : NONE;
    }

    public boolean quiet() {
        for (int p = 0; p < processes; p++) {
            if (workers[p].active) {
                return false;
            }
        }
        return worksUnderWay() == 0;
    }

    public int wrong() {
        return wrongEnds;
    }

    public int falsely() {
        return falseDeaths;
    }

    public int count(int what) {
        switch (what) {
            case 0:
                return processes;
            case 1:
                return oneIf(treeTold);
            case 2:
                return oneIf(ringTold);
            case 3:
                return token.round;
            case 4:
                return token.sum;
            case 5:
                return oneIf(token.black);
            case 6:
                return messagesUnderWay();
            case 7:
                return worksUnderWay();
            case 8:
                return received;
            case 9:
                return deaths;
            default:
                return NONE;
        }
    }

    private static Worker[] newWorkers(int processes) {
        Worker[] made = new Worker[processes];
        for (int p = 0; p < processes; p++) {
            made[p] = new Worker(processes);
        }
        return made;
    }

    private static Row[] newRows(int processes) {
        Row[] made = new Row[processes * processes];
        for (int at = 0; at < made.length; at++) {
            boolean toItself = at / processes == at % processes;
            made[at] = toItself ? null : new Row();
        }
        return made;
    }

    private static int oneIf(boolean holds) {
        return holds ? 1 : 0;
    }

    private static int bitOf(int p) {
        return 1 << p;
    }

    private static int allOf(int processes) {
        return (1 << processes) - 1;
    }

    private static boolean holds(int set, int p) {
        return (set & bitOf(p)) != 0;
    }

    // A message is one number, so that sending makes no object: its kind in the lowest 3 bits, and of
    // a probe who began it in the next 4, and the probing's number above these.
    private static int probeOf(int beginner, int number) {
        return number << 7 | beginner << 3 | PROBE;
    }

    private static int kindOf(int content) {
        return content & 7;
    }

    private static int beginnerOf(int content) {
        return content >> 3 & 15;
    }

    private static int numberOf(int content) {
        return content >> 7;
    }

    private boolean isProcess(int p) {
        return p >= 0 && p < processes;
    }

    private Worker workerAt(int p) {
        return isProcess(p) ? workers[p] : null;
    }

    private Row rowBetween(int p, int q) {
        return isProcess(p) && isProcess(q) ? rows[p * processes + q] : null;
    }

    private void put(int p, int q, int content) {
        Row row = rowBetween(p, q);
        if (row != null) {
            row.append(content);
        }
    }

    private void putToEach(int p, int receivers, int content) {
        for (int q = 0; q < processes; q++) {
            Row row = rowBetween(p, q);
            if (row != null && holds(receivers, q)) {
                row.append(content);
            }
        }
    }

    private void giveToken(int p, int q) {
        token.holder = NONE;
        put(p, q, TOKEN);
    }

    private boolean isInTree(int p, Worker worker) {
        return p == ROOT ? started && !treeTold : worker.parent != NONE;
    }

    private void takeWork(int p, int q, Worker receiver) {
        receiver.active = true;
        receiver.balance--;
        receiver.black = true;
        // The root never has a parent; it is out of the tree only when no work can reach it.
        if (q == ROOT || isInTree(q, receiver)) {
            put(q, p, ACK);
        } else {
            receiver.parent = p;
        }
    }

    private void leaveTreeIfDone(int p, Worker worker) {
        if (worker.active || worker.owed != 0 || !isInTree(p, worker)) {
            return;
        }
        if (p == ROOT) {
            treeTold = true;
            judgeEnd();
        } else {
            put(p, worker.parent, ACK);
            worker.parent = NONE;
        }
    }

    private void judgeEnd() {
        if (!quiet()) {
            wrongEnds++;
        }
    }

    private void takeProbe(int p, int q, Worker receiver, int content) {
        if (!receiver.isBlocked() || !holds(receiver.pending, p)) {
            return;
        }
        int beginner = beginnerOf(content);
        if (beginner == q) {
            tellDead(q, receiver);
        } else if (receiver.noteIfNewer(beginner, numberOf(content))) {
            putToEach(q, receiver.waitsFor, content);
        }
    }

    private void tellDead(int p, Worker worker) {
        worker.deaths++;
        deaths++;
        if (!isInRing(p)) {
            falseDeaths++;
        }
    }

    // A way back to p that meets nobody twice has no more steps than there are processes, and each
    // turn goes at least one step further.
    private boolean isInRing(int p) {
        int reached = workers[p].hangsOn();
        for (int turn = 0; turn < processes && !holds(reached, p); turn++) {
            for (int q = 0; q < processes; q++) {
                if (holds(reached, q)) {
                    reached |= workers[q].hangsOn();
                }
            }
        }
        return holds(reached, p);
    }

    private int messagesUnderWay() {
        int sum = 0;
        for (Row row : rows) {
            sum += row == null ? 0 : row.size;
        }
        return sum;
    }

    private int worksUnderWay() {
        int sum = 0;
        for (Row row : rows) {
            sum += row == null ? 0 : row.works;
        }
        return sum;
    }

    /** What is known of one process; a set of processes is a number with a bit for each. */
    private static final class Worker {
        private final int[] latestProbe;
        private boolean active;
        private boolean black;
        private int parent = NONE;
        private int owed;
        private int balance;
        private int waitsFor;
        private int repliesComing;
        private int pending;
        private int deaths;
        private int probings;

        Worker(int processes) {
            latestProbe = new int[processes];
        }

        boolean isBlocked() {
            return waitsFor != 0;
        }

        boolean isFree() {
            return active && !isBlocked();
        }

        int hangsOn() {
            return waitsFor & ~repliesComing;
        }

        boolean noteIfNewer(int beginner, int number) {
            if (beginner < 0 || beginner >= latestProbe.length || number <= latestProbe[beginner]) {
                return false;
            }
            latestProbe[beginner] = number;
            return true;
        }
    }

    /** The token of the ring; nobody holds it while it is under way. */
    private static final class Token {
        private int holder = ROOT;
        private int sum;
        private boolean black;
        private int round;

        boolean showsEndTo(Worker root) {
            return round > 0 && !black && !root.black && sum + root.balance == 0;
        }

        void beginRound() {
            round++;
            black = false;
            sum = 0;
        }

        void collect(Worker worker) {
            sum += worker.balance;
            black = black || worker.black;
            worker.black = false;
        }
    }

    /**
     * The messages from one process to another, in a ring of cells that is used again. It grows to
     * 1024 cells at most: the document's limits allow 20 works, 100 acks, 500 probes, and one token,
     * request and reply.
     */
    private static final class Row {
        private static final int FIRST_CELLS = 4;

        private int[] cells = new int[FIRST_CELLS];
        private int first;
        private int size;
        private int works;

        int at(int i) {
            return cells[placeOf(i)];
        }

        void append(int content) {
            if (size == cells.length) {
                grow();
            }
            cells[placeOf(size)] = content;
            size++;
            works += oneIf(kindOf(content) == WORK);
        }

        int takeFirst() {
            int content = cells[first];
            first = placeOf(1);
            size--;
            works -= oneIf(kindOf(content) == WORK);
            return content;
        }

        private int placeOf(int i) {
            int place = first + i;
            return place < cells.length ? place : place - cells.length;
        }

        private void grow() {
            int[] wider = new int[cells.length * 2];
            for (int i = 0; i < size; i++) {
                wider[i] = cells[placeOf(i)];
            }
            cells = wider;
            first = 0;
        }
    }
}
