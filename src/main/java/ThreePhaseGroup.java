import java.util.Arrays;

/**
 * Four replicas of a small key-value service that agree on the order of the
 * clients' requests in three phases, though one of them may be faulty.
 */
public final class ThreePhaseGroup {
    private static final int REPLICAS = 4;
    private static final int CLIENTS = 2;
    private static final int PARTIES = REPLICAS + CLIENTS;
    private static final int WINDOW = 4;
    private static final int LAST_VIEW = 15;
    private static final int LONGEST_PUMP = 8;

    private static final int BOARD_FULL = 150;
    // One delivery or tick sends at most twenty messages, so a board that was not full ends far below this;
    // and each of a NEW-VIEW's votes, 0 .. 255, is a place on it.
    private static final int BOARD_ROOM = 256;
    // Each rule uses up something that there is little of, so no run comes near this.
    private static final int RULE_LIMIT = 100000;

    private static final int SHORTEST_SPAN = 4;
    private static final int LONGEST_SPAN = 32;

    private static final int REQUEST = 0;
    private static final int PRE_PREPARE = 1;
    private static final int PREPARE = 2;
    private static final int COMMIT = 3;
    private static final int REPLY = 4;
    private static final int VIEW_CHANGE = 5;
    private static final int NEW_VIEW = 6;
    private static final int CHECKPOINT = 7;

    private static final int READ = 0;
    private static final int GIVE = 1;
    private static final int ADD = 2;

    private static final int EMPTY = -1;
    private static final int NONE = -2;
    // Larger than any int, so that no request or result that a message names can be taken for it.
    private static final long UNNOTED = 1L << 40;

    private final Board board = new Board();
    private final Replica[] replicas = new Replica[REPLICAS];
    private final Client[] clients = new Client[CLIENTS];
    private final int[] marks = new int[PARTIES];
    private int faulty = NONE;

    public ThreePhaseGroup() {
        for (int r = 0; r < REPLICAS; r++) {
            replicas[r] = new Replica(r, board);
        }
        for (int client = 0; client < CLIENTS; client++) {
            clients[client] = new Client(client, board);
        }
    }

    public int submit(int client, int op, int key, int value) {
        if (!isClient(client) || !isOperation(op, key, value)) {
            return -1;
        }
        Client asking = clients[client];
        if (asking.outstanding != 0 || board.isFull()) {
            return -1;
        }
        asking.openNext();
        return board.post(REQUEST, REPLICAS + client, asking.outstanding, op, 16 * key + value);
    }

    public boolean deliver(int m, int party) {
        if (!board.has(m) || !isParty(party) || board.isFull()) {
            return false;
        }
        return give(m, party);
    }

    public int pump(int party, int n) {
        if (!isParty(party) || n < 1 || n > LONGEST_PUMP) {
            return -1;
        }
        int taken = 0;
        for (int i = 0; i < n && board.has(marks[party]) && !board.isFull(); i++) {
            if (give(marks[party], party)) {
                taken++;
            }
            marks[party]++;
        }
        return taken;
    }

    public boolean tick(int r) {
        if (!isReplica(r) || r == faulty || replicas[r].timer == 0 || board.isFull()) {
            return false;
        }
        replicas[r].stepClock();
        replicas[r].followRules();
        board.judgeNew();
        return true;
    }

    public boolean corrupt(int r) {
        if (!isReplica(r) || faulty != NONE) {
            return false;
        }
        faulty = r;
        return true;
    }

    public int forge(int kind, int a, int b, int c) {
        if (kind < PRE_PREPARE || kind > NEW_VIEW) {
            return -1;
        }
        return postForged(kind, a, b, c);
    }

    public int forgeCheckpoint(int n, long state) {
        return postForged(CHECKPOINT, n, state, 0);
    }

    public int messages() {
        return board.size;
    }

    public long look(int m, int k) {
        if (!board.has(m)) {
            return -1;
        }
        switch (k) {
            case 0:
                return board.kind[m];
            case 1:
                return board.sender[m];
            case 2:
                return board.a[m];
            case 3:
                return board.b[m];
            case 4:
                return board.c[m];
            case 5:
                return board.valid[m] ? 1 : 0;
            default:
                return -1;
        }
    }

    public int mark(int party) {
        return isParty(party) ? marks[party] : -1;
    }

    public int view(int r) {
        if (!isReplica(r)) {
            return -1;
        }
        return replicas[r].view + (replicas[r].changing ? 16 : 0);
    }

    public int executed(int r) {
        return isReplica(r) ? replicas[r].executed : -1;
    }

    public int stable(int r) {
        return isReplica(r) ? replicas[r].stable : -1;
    }

    public long state(int r) {
        return isReplica(r) ? replicas[r].state : -1;
    }

    public int slot(int r, int n) {
        if (!isReplica(r) || !replicas[r].inWindow(n)) {
            return -1;
        }
        return replicas[r].slotAt(n).summary(r);
    }

    public int ordered(int r, int n) {
        if (!isReplica(r) || !replicas[r].inWindow(n)) {
            return NONE;
        }
        Slot slot = replicas[r].slotAt(n);
        return slot.decided != NONE ? slot.decided : slot.accepted;
    }

    public int timer(int r) {
        return isReplica(r) ? replicas[r].timer : -1;
    }

    public int waiting(int r) {
        return isReplica(r) ? replicas[r].countWaiting() : -1;
    }

    public int outstanding(int client) {
        return isClient(client) ? clients[client].outstanding : -1;
    }

    public int answer(int client) {
        return isClient(client) ? clients[client].latestAnswer : -1;
    }

    private static boolean isReplica(int r) {
        return r >= 0 && r < REPLICAS;
    }

    private static boolean isClient(int client) {
        return client >= 0 && client < CLIENTS;
    }

    private static boolean isParty(int party) {
        return party >= 0 && party < PARTIES;
    }

    private static boolean isOperation(int op, int key, int value) {
        return op >= READ && op <= ADD && key >= 0 && key < Service.KEYS && value >= 0 && value < Service.VALUES;
    }

    private boolean give(int m, int party) {
        if (party >= REPLICAS) {
            return clients[party - REPLICAS].takes(m);
        }
        if (party == faulty || !replicas[party].takes(m)) {
            return false;
        }
        replicas[party].followRules();
        board.judgeNew();
        return true;
    }

    // What the faulty replica forges is not noted by itself: it lies on the board alone.
    private int postForged(int kind, int a, long b, int c) {
        if (faulty == NONE || board.isFull()) {
            return -1;
        }
        int m = board.post(kind, faulty, a, b, c);
        board.judgeNew();
        return m;
    }

    private static int primaryOf(int view) {
        return view % REPLICAS;
    }

    /** The service's STATE, packed into a long. */
    private static final class Service {
        static final int KEYS = 4;
        static final int VALUES = 16;

        static int valueOf(long state, int key) {
            return (int) (state >>> (4 * key)) & 15;
        }

        static int timestampOf(long state, int client) {
            return (int) (state >>> (16 + 12 * client)) & 255;
        }

        static int valueAfter(int op, int before, int value) {
            if (op == READ) {
                return before;
            }
            return op == GIVE ? value : (before + value) % VALUES;
        }

        static long withValue(long state, int key, int value) {
            return withBits(state, 4 * key, 15, value);
        }

        static long withResult(long state, int client, int timestamp, int result) {
            return withBits(state, 16 + 12 * client, 4095, timestamp + 256 * result);
        }

        private static long withBits(long state, int shift, long mask, long bits) {
            return (state & ~(mask << shift)) | ((bits & mask) << shift);
        }
    }

    /** A row of different message numbers. */
    private static final class Numbers {
        final int[] at = new int[BOARD_ROOM];
        int size = 0;

        boolean has(int m) {
            for (int i = 0; i < size; i++) {
                if (at[i] == m) {
                    return true;
                }
            }
            return false;
        }

        void add(int m) {
            if (size < BOARD_ROOM && !has(m)) {
                at[size] = m;
                size++;
            }
        }
    }

    /** All messages ever sent, and what can be said of them from the messages below them. */
    private static final class Board {
        final int[] kind = new int[BOARD_ROOM];
        final int[] sender = new int[BOARD_ROOM];
        final int[] a = new int[BOARD_ROOM];
        // Long, since a checkpoint has its state here.
        final long[] b = new long[BOARD_ROOM];
        final int[] c = new int[BOARD_ROOM];
        // Whether a VIEW-CHANGE or NEW-VIEW is VALID: kept, since it hangs on lower messages alone.
        final boolean[] valid = new boolean[BOARD_ROOM];
        int size = 0;
        private int judged = 0;

        boolean isFull() {
            return size >= BOARD_FULL;
        }

        boolean has(int m) {
            return m >= 0 && m < size;
        }

        boolean hasRequestBelow(int m, int below) {
            return m >= 0 && m < below && kind[m] == REQUEST;
        }

        int post(int ofKind, int from, int fieldA, long fieldB, int fieldC) {
            if (size >= BOARD_ROOM) {
                return BOARD_ROOM - 1;
            }
            int m = size;
            kind[m] = ofKind;
            sender[m] = from;
            a[m] = fieldA;
            b[m] = fieldB;
            c[m] = fieldC;
            size++;
            return m;
        }

        // In order of the numbers, so that the votes of a NEW-VIEW are judged before it.
        void judgeNew() {
            for (; judged < size; judged++) {
                if (kind[judged] == VIEW_CHANGE) {
                    valid[judged] = isValidViewChange(judged);
                } else if (kind[judged] == NEW_VIEW) {
                    valid[judged] = isValidNewView(judged);
                }
            }
        }

        private static boolean isChangedView(int view) {
            return view >= 1 && view <= LAST_VIEW;
        }

        private boolean isValidViewChange(int m) {
            if (!isChangedView(a[m]) || (c[m] >>> 20) != 0 || (b[m] != 0 && certificate(b[m], m) == NONE)) {
                return false;
            }
            int checkpoint = (int) b[m];
            for (int n = checkpoint + 1; n <= checkpoint + WINDOW; n++) {
                int claim = claimFor(m, n);
                if (claim > a[m] || (claim != 0 && backing(claim - 1, n, m) == NONE)) {
                    return false;
                }
            }
            return true;
        }

        private boolean isValidNewView(int m) {
            int votes = (int) b[m];
            if (!isChangedView(a[m]) || (votes >>> 24) != 0) {
                return false;
            }
            int voters = 0;
            for (int i = 0; i < 3; i++) {
                int vote = voteOf(votes, i);
                if (vote >= m || kind[vote] != VIEW_CHANGE || !valid[vote] || a[vote] != a[m]) {
                    return false;
                }
                voters |= 1 << sender[vote];
            }
            return Integer.bitCount(voters) == 3 && ordersDue(votes) == c[m];
        }

        /** A CHECKPOINT for n whose state three replicas stand for below that message; NONE without one. */
        int certificate(long n, int below) {
            for (int m = 0; m < below; m++) {
                if (kind[m] == CHECKPOINT && a[m] == n && countCheckpoints(m, below) >= 3) {
                    return m;
                }
            }
            return NONE;
        }

        private int countCheckpoints(int like, int below) {
            int senders = 0;
            for (int m = 0; m < below; m++) {
                if (kind[m] == CHECKPOINT && a[m] == a[like] && b[m] == b[like]) {
                    senders |= 1 << sender[m];
                }
            }
            return Integer.bitCount(senders);
        }

        /** The request that backs the view and n below that message; NONE without one. */
        private int backing(int view, int n, int below) {
            int primary = primaryOf(view);
            for (int m = 0; m < below; m++) {
                if (!isPrepare(m, view, n) || sender[m] == primary) {
                    continue;
                }
                for (int other = m + 1; other < below; other++) {
                    if (isPrepare(other, view, n) && sender[other] != primary
                            && sender[other] != sender[m] && c[other] == c[m]) {
                        return c[m];
                    }
                }
            }
            return NONE;
        }

        private boolean isPrepare(int m, int view, int n) {
            return kind[m] == PREPARE && a[m] == view && b[m] == n;
        }

        private static int voteOf(int votes, int i) {
            return (votes >>> (8 * i)) & 255;
        }

        /** 1 + the view that a valid VIEW-CHANGE claims for n; 0 without a claim. */
        private int claimFor(int viewChange, int n) {
            int j = n - 1 - (int) b[viewChange];
            return j >= 0 && j < WINDOW ? (c[viewChange] >>> (5 * j)) & 31 : 0;
        }

        /** Where a NEW-VIEW with these votes starts; they are numbers of valid VIEW-CHANGEs. */
        int startOf(int votes) {
            int start = 0;
            for (int i = 0; i < 3; i++) {
                start = Math.max(start, (int) b[voteOf(votes, i)]);
            }
            return start;
        }

        /** The orders due by these votes; they are numbers of valid VIEW-CHANGEs. */
        int ordersDue(int votes) {
            int start = startOf(votes);
            int orders = 0;
            boolean greaterClaimed = false;
            for (int j = WINDOW - 1; j >= 0; j--) {
                int n = start + 1 + j;
                int order = greaterClaimed ? EMPTY : NONE;
                int claimant = greatestClaimant(votes, n);
                if (claimant != NONE) {
                    greaterClaimed = true;
                    order = backing(claimFor(claimant, n) - 1, n, claimant);
                }
                orders |= (order + 2) << (8 * j);
            }
            return orders;
        }

        private int greatestClaimant(int votes, int n) {
            int greatest = 0;
            int claimant = NONE;
            for (int i = 0; i < 3; i++) {
                int vote = voteOf(votes, i);
                if (claimFor(vote, n) > greatest) {
                    greatest = claimFor(vote, n);
                    claimant = vote;
                }
            }
            return claimant;
        }
    }

    /** What a replica has for one number of its window; the notes are those for its VIEW. */
    private static final class Slot {
        final long[] prepares = new long[REPLICAS];
        final long[] commits = new long[REPLICAS];
        int accepted;
        int decided = NONE;
        // 1 + CERT's view, 0 without it. Its request is not kept: what backs that view on the board tells it again.
        int claim = 0;

        Slot() {
            forgetView();
        }

        void forgetView() {
            accepted = NONE;
            for (int r = 0; r < REPLICAS; r++) {
                prepares[r] = UNNOTED;
                commits[r] = UNNOTED;
            }
        }

        void forgetProofs() {
            decided = NONE;
            claim = 0;
        }

        int countPrepares() {
            return countAccepted(prepares);
        }

        int countCommits() {
            return countAccepted(commits);
        }

        private int countAccepted(long[] notes) {
            int count = 0;
            for (int r = 0; r < REPLICAS; r++) {
                if (accepted != NONE && notes[r] == accepted) {
                    count++;
                }
            }
            return count;
        }

        int summary(int owner) {
            int sum = 8 * countPrepares() + 64 * countCommits() + 1024 * claim;
            if (accepted != NONE) {
                sum += commits[owner] != UNNOTED ? 3 : 1;
            }
            if (decided != NONE) {
                sum += 4;
            }
            return sum;
        }
    }

    /** A replica while it is correct; once it is faulty nothing calls it any more but to look. */
    private static final class Replica {
        private final int self;
        private final Board board;
        // A number n of the window has the slot n % 4, which it leaves when the window has passed it.
        private final Slot[] slots = new Slot[WINDOW];
        private final Numbers known = new Numbers();
        private final Numbers checkpoints = new Numbers();
        private final int[] viewChanges = new int[REPLICAS];
        int view = 0;
        boolean changing = false;
        int stable = 0;
        int executed = 0;
        long state = 0;
        int timer = 0;
        private int span = SHORTEST_SPAN;
        // Whether since the message or tick something was done that starts the timer anew.
        private boolean renewing = false;

        Replica(int self, Board board) {
            this.self = self;
            this.board = board;
            for (int i = 0; i < WINDOW; i++) {
                slots[i] = new Slot();
            }
            Arrays.fill(viewChanges, NONE);
        }

        boolean inWindow(long n) {
            return n > stable && n <= stable + WINDOW;
        }

        /** Only for numbers of the window: others share their slots. */
        Slot slotAt(long n) {
            return slots[(int) n & (WINDOW - 1)];
        }

        private boolean isPrimary() {
            return primaryOf(view) == self;
        }

        private boolean wouldWait(int request) {
            int client = board.sender[request] - REPLICAS;
            return board.a[request] > Service.timestampOf(state, client);
        }

        int countWaiting() {
            int count = 0;
            for (int i = 0; i < known.size; i++) {
                if (wouldWait(known.at[i])) {
                    count++;
                }
            }
            return count;
        }

        private void learn(int request) {
            if (request != EMPTY) {
                known.add(request);
            }
        }

        boolean takes(int m) {
            switch (board.kind[m]) {
                case REQUEST:
                    return takesRequest(m);
                case PRE_PREPARE:
                    return takesPrePrepare(m);
                case PREPARE:
                    return board.sender[m] != primaryOf(view) && takesPhase(m);
                case COMMIT:
                    return takesPhase(m);
                case CHECKPOINT:
                    return takesCheckpoint(m);
                case VIEW_CHANGE:
                    return takesViewChange(m);
                case NEW_VIEW:
                    return takesNewView(m);
                default:
                    return false;
            }
        }

        private boolean takesRequest(int m) {
            if (known.has(m) || !wouldWait(m)) {
                return false;
            }
            learn(m);
            return true;
        }

        private boolean isOfThisView(int m) {
            return !changing && board.a[m] == view && board.sender[m] != self && inWindow(board.b[m]);
        }

        private boolean takesPrePrepare(int m) {
            int request = board.c[m];
            if (!isOfThisView(m) || board.sender[m] != primaryOf(view)) {
                return false;
            }
            Slot slot = slotAt(board.b[m]);
            if (slot.accepted != NONE || (request != EMPTY && !board.hasRequestBelow(request, m))) {
                return false;
            }
            slot.accepted = request;
            learn(request);
            return true;
        }

        private boolean takesPhase(int m) {
            if (!isOfThisView(m)) {
                return false;
            }
            Slot slot = slotAt(board.b[m]);
            long[] notes = board.kind[m] == PREPARE ? slot.prepares : slot.commits;
            if (notes[board.sender[m]] != UNNOTED) {
                return false;
            }
            notes[board.sender[m]] = board.c[m];
            return true;
        }

        private boolean takesCheckpoint(int m) {
            int n = board.a[m];
            if (board.sender[m] == self || n % 2 != 0 || n <= stable) {
                return false;
            }
            for (int i = 0; i < checkpoints.size; i++) {
                int noted = checkpoints.at[i];
                if (board.sender[noted] == board.sender[m] && board.a[noted] == n) {
                    return false;
                }
            }
            checkpoints.add(m);
            return true;
        }

        private boolean isAhead(int m) {
            return board.a[m] > view || (board.a[m] == view && changing);
        }

        private boolean takesViewChange(int m) {
            int from = board.sender[m];
            if (!board.valid[m] || from == self || !isAhead(m)) {
                return false;
            }
            int noted = viewChanges[from];
            if (noted != NONE && board.a[m] <= board.a[noted]) {
                return false;
            }
            viewChanges[from] = m;
            return true;
        }

        private boolean takesNewView(int m) {
            int from = board.sender[m];
            if (!board.valid[m] || from == self || from != primaryOf(board.a[m]) || !isAhead(m)) {
                return false;
            }
            enter(m);
            return true;
        }

        void stepClock() {
            timer--;
            if (timer == 0) {
                begin(view + 1);
            }
        }

        void followRules() {
            boolean applied = true;
            for (int i = 0; i < RULE_LIMIT && applied; i++) {
                applied = prepareNext() || commitNext() || decideNext() || executeNext()
                        || settleNext() || joinChange() || openView() || orderNext();
            }
            setTimer();
        }

        private void setTimer() {
            if (view == LAST_VIEW || (!changing && countWaiting() == 0)) {
                timer = 0;
            } else if (timer == 0 || renewing) {
                timer = span;
            }
            renewing = false;
        }

        private boolean prepareNext() {
            if (changing || isPrimary()) {
                return false;
            }
            for (int n = stable + 1; n <= stable + WINDOW; n++) {
                Slot slot = slotAt(n);
                if (slot.accepted != NONE && slot.prepares[self] == UNNOTED) {
                    board.post(PREPARE, self, view, n, slot.accepted);
                    slot.prepares[self] = slot.accepted;
                    return true;
                }
            }
            return false;
        }

        private boolean commitNext() {
            for (int n = stable + 1; n <= stable + WINDOW; n++) {
                Slot slot = slotAt(n);
                if (slot.accepted != NONE && slot.commits[self] == UNNOTED && slot.countPrepares() >= 2) {
                    slot.claim = 1 + view;
                    board.post(COMMIT, self, view, n, slot.accepted);
                    slot.commits[self] = slot.accepted;
                    return true;
                }
            }
            return false;
        }

        private boolean decideNext() {
            for (int n = stable + 1; n <= stable + WINDOW; n++) {
                Slot slot = slotAt(n);
                if (slot.accepted != NONE && slot.decided == NONE && slot.commits[self] != UNNOTED
                        && slot.countCommits() >= 3) {
                    slot.decided = slot.accepted;
                    return true;
                }
            }
            return false;
        }

        private boolean executeNext() {
            if (!inWindow(executed + 1) || slotAt(executed + 1).decided == NONE) {
                return false;
            }
            executed++;
            int request = slotAt(executed).decided;
            if (request != EMPTY && known.has(request) && wouldWait(request)) {
                execute(request);
            }
            if (executed % 2 == 0) {
                checkpoints.add(board.post(CHECKPOINT, self, executed, state, 0));
            }
            return true;
        }

        private void execute(int request) {
            int client = board.sender[request] - REPLICAS;
            int timestamp = board.a[request];
            int op = (int) board.b[request];
            int key = board.c[request] / Service.VALUES;
            int before = Service.valueOf(state, key);
            int after = Service.valueAfter(op, before, board.c[request] % Service.VALUES);
            int result = op == GIVE ? before : after;
            state = Service.withResult(Service.withValue(state, key, after), client, timestamp, result);
            span = SHORTEST_SPAN;
            renewing = true;
            board.post(REPLY, self, client, timestamp, result);
        }

        private boolean settleNext() {
            int best = NONE;
            for (int i = 0; i < checkpoints.size; i++) {
                int m = checkpoints.at[i];
                int least = best == NONE ? stable : board.a[best];
                if (board.a[m] > least && countNotedLike(m) >= 3) {
                    best = m;
                }
            }
            if (best == NONE) {
                return false;
            }
            settle(board.a[best], board.b[best]);
            return true;
        }

        private int countNotedLike(int m) {
            int senders = 0;
            for (int i = 0; i < checkpoints.size; i++) {
                int noted = checkpoints.at[i];
                if (board.a[noted] == board.a[m] && board.b[noted] == board.b[m]) {
                    senders |= 1 << board.sender[noted];
                }
            }
            return Integer.bitCount(senders);
        }

        private boolean joinChange() {
            int count = 0;
            int least = LAST_VIEW;
            for (int r = 0; r < REPLICAS; r++) {
                if (viewChanges[r] != NONE && board.a[viewChanges[r]] > view) {
                    count++;
                    least = Math.min(least, board.a[viewChanges[r]]);
                }
            }
            if (count < 2) {
                return false;
            }
            begin(least);
            return true;
        }

        private boolean openView() {
            if (!changing || !isPrimary()) {
                return false;
            }
            int votes = 0;
            int taken = 0;
            int others = 0;
            for (int r = 0; r < REPLICAS; r++) {
                if (!votesForView(r) || (r != self && others == 2)) {
                    continue;
                }
                votes |= viewChanges[r] << (8 * taken);
                taken++;
                others += r != self ? 1 : 0;
            }
            if (taken < 3) {
                return false;
            }
            enter(board.post(NEW_VIEW, self, view, votes, board.ordersDue(votes)));
            return true;
        }

        private boolean votesForView(int r) {
            return viewChanges[r] != NONE && board.a[viewChanges[r]] == view;
        }

        private boolean orderNext() {
            if (changing || !isPrimary()) {
                return false;
            }
            int next = stable + 1;
            for (int n = stable + 1; n <= stable + WINDOW; n++) {
                if (slotAt(n).accepted != NONE) {
                    next = n + 1;
                }
            }
            int request = leastUnordered();
            if (request == NONE || !inWindow(next)) {
                return false;
            }
            board.post(PRE_PREPARE, self, view, next, request);
            slotAt(next).accepted = request;
            return true;
        }

        private int leastUnordered() {
            int least = NONE;
            for (int i = 0; i < known.size; i++) {
                int request = known.at[i];
                if ((least == NONE || request < least) && wouldWait(request) && !isAccepted(request)) {
                    least = request;
                }
            }
            return least;
        }

        private boolean isAccepted(int request) {
            for (int i = 0; i < WINDOW; i++) {
                if (slots[i].accepted == request) {
                    return true;
                }
            }
            return false;
        }

        private void settle(int n, long settled) {
            for (int passed = stable + 1; passed <= stable + WINDOW && passed <= n; passed++) {
                slotAt(passed).forgetView();
                slotAt(passed).forgetProofs();
            }
            stable = n;
            if (executed < n) {
                executed = n;
                state = settled;
            }
        }

        // No view is left and come back to, so the notes for the one that is left are needed no more.
        private void moveTo(int next) {
            view = next;
            renewing = true;
            for (int i = 0; i < WINDOW; i++) {
                slots[i].forgetView();
            }
        }

        private void begin(int next) {
            moveTo(next);
            changing = true;
            span = Math.min(2 * span, LONGEST_SPAN);
            int claims = 0;
            for (int j = 0; j < WINDOW; j++) {
                claims |= slotAt(stable + 1 + j).claim << (5 * j);
            }
            viewChanges[self] = board.post(VIEW_CHANGE, self, view, stable, claims);
        }

        private void enter(int newView) {
            moveTo(board.a[newView]);
            changing = false;
            int start = board.startOf((int) board.b[newView]);
            int certificate = start > stable ? board.certificate(start, newView) : NONE;
            if (certificate != NONE) {
                settle(start, board.b[certificate]);
            }
            for (int j = 0; j < WINDOW; j++) {
                int order = ((board.c[newView] >>> (8 * j)) & 255) - 2;
                if (order != NONE && inWindow(start + 1 + j)) {
                    slotAt(start + 1 + j).accepted = order;
                    learn(order);
                }
            }
        }
    }

    /** A client and the replies it has taken for its outstanding request. */
    private static final class Client {
        private final int self;
        private final Board board;
        private final long[] replies = new long[REPLICAS];
        private int submitted = 0;
        int outstanding = 0;
        int latestAnswer = -1;

        Client(int self, Board board) {
            this.self = self;
            this.board = board;
        }

        void openNext() {
            submitted++;
            outstanding = submitted;
            Arrays.fill(replies, UNNOTED);
        }

        boolean takes(int m) {
            if (board.kind[m] != REPLY || outstanding == 0) {
                return false;
            }
            int from = board.sender[m];
            if (board.a[m] != self || board.b[m] != outstanding || replies[from] != UNNOTED) {
                return false;
            }
            replies[from] = board.c[m];
            if (countReplies(board.c[m]) >= 2) {
                latestAnswer = board.c[m];
                outstanding = 0;
            }
            return true;
        }

        private int countReplies(int result) {
            int count = 0;
            for (int r = 0; r < REPLICAS; r++) {
                if (replies[r] == result) {
                    count++;
                }
            }
            return count;
        }
    }
}
