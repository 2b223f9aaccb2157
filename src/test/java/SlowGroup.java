import java.util.ArrayList;
import java.util.HashMap;
import java.util.HashSet;
import java.util.List;
import java.util.Map;
import java.util.Set;
import java.util.TreeMap;
import java.util.TreeSet;

/**
 * The document written down once more, as near to its words as can be and without a thought for speed:
 * what the program answers is held against it in ModelTest.
 */
final class SlowGroup {
    record Message(int kind, int sender, int a, long b, int c) { }

    record Cert(int view, int request) { }

    static final class Member {
        int view = 0;
        boolean changing = false;
        int h = 0;
        int e = 0;
        long state = 0;
        int span = 4;
        int timer = 0;
        final TreeSet<Integer> knows = new TreeSet<>();
        final TreeMap<Integer, Integer> accepted = new TreeMap<>();
        final TreeMap<Integer, Cert> cert = new TreeMap<>();
        final TreeMap<Integer, Integer> decided = new TreeMap<>();
        final Set<Integer> noted = new HashSet<>();
        final Set<Integer> sent = new HashSet<>();
        final Map<Integer, Integer> viewChanges = new TreeMap<>();
        boolean timerAnew = false;
    }

    static final class Asker {
        int count = 0;
        int outstanding = 0;
        int answer = -1;
        final Map<Integer, Integer> replies = new HashMap<>();
    }

    final List<Message> board = new ArrayList<>();
    final Member[] members = {new Member(), new Member(), new Member(), new Member()};
    final Asker[] askers = {new Asker(), new Asker()};
    final int[] marks = new int[6];
    int faulty = -1;

    // ---- what can be seen

    int submit(int client, int op, int key, int value) {
        if (client < 0 || client > 1 || op < 0 || op > 2 || key < 0 || key > 3 || value < 0 || value > 15) {
            return -1;
        }
        if (askers[client].outstanding != 0 || full()) {
            return -1;
        }
        askers[client].count++;
        askers[client].outstanding = askers[client].count;
        askers[client].replies.clear();
        board.add(new Message(0, 4 + client, askers[client].count, op, 16 * key + value));
        return board.size() - 1;
    }

    boolean deliver(int m, int party) {
        if (m < 0 || m >= board.size() || party < 0 || party > 5 || full()) {
            return false;
        }
        return give(m, party);
    }

    int pump(int party, int n) {
        if (party < 0 || party > 5 || n < 1 || n > 8) {
            return -1;
        }
        int took = 0;
        for (int i = 0; i < n; i++) {
            if (marks[party] >= board.size() || full()) {
                break;
            }
            took += give(marks[party], party) ? 1 : 0;
            marks[party]++;
        }
        return took;
    }

    boolean tick(int r) {
        if (r < 0 || r > 3 || r == faulty || members[r].timer == 0 || full()) {
            return false;
        }
        members[r].timer--;
        if (members[r].timer == 0) {
            begins(r, members[r].view + 1);
        }
        rules(r);
        return true;
    }

    boolean corrupt(int r) {
        if (r < 0 || r > 3 || faulty >= 0) {
            return false;
        }
        faulty = r;
        return true;
    }

    int forge(int kind, int a, int b, int c) {
        if (faulty < 0 || kind < 1 || kind > 6 || full()) {
            return -1;
        }
        board.add(new Message(kind, faulty, a, b, c));
        return board.size() - 1;
    }

    int forgeCheckpoint(int n, long state) {
        if (faulty < 0 || full()) {
            return -1;
        }
        board.add(new Message(7, faulty, n, state, 0));
        return board.size() - 1;
    }

    int messages() {
        return board.size();
    }

    long look(int m, int k) {
        if (m < 0 || m >= board.size() || k < 0 || k > 5) {
            return -1;
        }
        Message x = board.get(m);
        long[] all = {x.kind, x.sender, x.a, x.b, x.c, validViewChange(m) || validNewView(m) ? 1 : 0};
        return all[k];
    }

    int mark(int party) {
        return party < 0 || party > 5 ? -1 : marks[party];
    }

    int view(int r) {
        return r < 0 || r > 3 ? -1 : members[r].view + (members[r].changing ? 16 : 0);
    }

    int executed(int r) {
        return r < 0 || r > 3 ? -1 : members[r].e;
    }

    int stable(int r) {
        return r < 0 || r > 3 ? -1 : members[r].h;
    }

    long state(int r) {
        return r < 0 || r > 3 ? -1 : members[r].state;
    }

    int slot(int r, int n) {
        if (r < 0 || r > 3 || !window(members[r], n)) {
            return -1;
        }
        Member x = members[r];
        int sum = 0;
        if (x.accepted.containsKey(n)) {
            sum += 1;
            sum += hasSent(r, 3, x.view, n) ? 2 : 0;
            sum += 8 * notedFor(r, 2, x.view, n, x.accepted.get(n)).size();
            sum += 64 * notedFor(r, 3, x.view, n, x.accepted.get(n)).size();
        }
        sum += x.decided.containsKey(n) ? 4 : 0;
        sum += x.cert.containsKey(n) ? 1024 * (1 + x.cert.get(n).view) : 0;
        return sum;
    }

    int ordered(int r, int n) {
        if (r < 0 || r > 3 || !window(members[r], n)) {
            return -2;
        }
        if (members[r].decided.containsKey(n)) {
            return members[r].decided.get(n);
        }
        return members[r].accepted.getOrDefault(n, -2);
    }

    int timer(int r) {
        return r < 0 || r > 3 ? -1 : members[r].timer;
    }

    int waiting(int r) {
        if (r < 0 || r > 3) {
            return -1;
        }
        int count = 0;
        for (int request : members[r].knows) {
            count += waits(r, request) ? 1 : 0;
        }
        return count;
    }

    int outstanding(int client) {
        return client < 0 || client > 1 ? -1 : askers[client].outstanding;
    }

    int answer(int client) {
        return client < 0 || client > 1 ? -1 : askers[client].answer;
    }

    // ---- the terms

    boolean full() {
        return board.size() >= 150;
    }

    boolean window(Member x, long n) {
        return n >= x.h + 1 && n <= x.h + 4;
    }

    boolean later(int r, int request) {
        Message q = board.get(request);
        long done = (members[r].state >> (16 + 12 * (q.sender - 4))) & 0xff;
        return q.a > done;
    }

    boolean waits(int r, int request) {
        return members[r].knows.contains(request) && later(r, request);
    }

    boolean hasSent(int r, int kind, int view, int n) {
        for (int m : members[r].sent) {
            Message x = board.get(m);
            if (x.kind == kind && x.a == view && x.b == n) {
                return true;
            }
        }
        return false;
    }

    Set<Integer> notedFor(int r, int kind, int view, int n, int request) {
        Set<Integer> senders = new HashSet<>();
        for (int m : members[r].noted) {
            Message x = board.get(m);
            if (x.kind == kind && x.a == view && x.b == n && x.c == request) {
                senders.add(x.sender);
            }
        }
        return senders;
    }

    int send(int r, int kind, int a, long b, int c) {
        board.add(new Message(kind, r, a, b, c));
        int m = board.size() - 1;
        members[r].sent.add(m);
        members[r].noted.add(m);
        if (kind == 5) {
            members[r].viewChanges.put(r, m);
        }
        return m;
    }

    boolean give(int m, int party) {
        if (party >= 4) {
            return clientTakes(party - 4, board.get(m));
        }
        if (party == faulty || !replicaTakes(party, m)) {
            return false;
        }
        rules(party);
        return true;
    }

    boolean clientTakes(int client, Message x) {
        Asker asker = askers[client];
        if (x.kind != 4 || asker.outstanding == 0 || x.a != client || x.b != asker.outstanding) {
            return false;
        }
        if (asker.replies.containsKey(x.sender)) {
            return false;
        }
        boolean second = asker.replies.containsValue(x.c);
        asker.replies.put(x.sender, x.c);
        if (second) {
            asker.answer = x.c;
            asker.outstanding = 0;
        }
        return true;
    }

    boolean replicaTakes(int r, int m) {
        Member me = members[r];
        Message x = board.get(m);
        int primary = me.view % 4;
        if (x.kind == 0) {
            if (me.knows.contains(m) || !later(r, m)) {
                return false;
            }
            me.knows.add(m);
            return true;
        }
        if (x.sender == r) {
            return false;
        }
        boolean current = !me.changing && x.a == me.view && window(me, x.b);
        if (x.kind == 1) {
            boolean request = x.c == -1 || (x.c >= 0 && x.c < m && board.get(x.c).kind == 0);
            if (!current || x.sender != primary || me.accepted.containsKey((int) x.b) || !request) {
                return false;
            }
            me.accepted.put((int) x.b, x.c);
            if (x.c != -1) {
                me.knows.add(x.c);
            }
            return true;
        }
        if (x.kind == 2 || x.kind == 3) {
            if (!current || (x.kind == 2 && x.sender == primary)) {
                return false;
            }
            for (int old : me.noted) {
                Message y = board.get(old);
                if (y.kind == x.kind && y.sender == x.sender && y.a == x.a && y.b == x.b) {
                    return false;
                }
            }
            me.noted.add(m);
            return true;
        }
        if (x.kind == 7) {
            if (x.a % 2 != 0 || x.a <= me.h) {
                return false;
            }
            for (int old : me.noted) {
                Message y = board.get(old);
                if (y.kind == 7 && y.sender == x.sender && y.a == x.a) {
                    return false;
                }
            }
            me.noted.add(m);
            return true;
        }
        boolean ahead = x.a > me.view || (x.a == me.view && me.changing);
        if (x.kind == 5) {
            Integer old = me.viewChanges.get(x.sender);
            if (!validViewChange(m) || !ahead || (old != null && x.a <= board.get(old).a)) {
                return false;
            }
            me.viewChanges.put(x.sender, m);
            return true;
        }
        if (x.kind == 6) {
            if (!validNewView(m) || !ahead || x.sender != x.a % 4) {
                return false;
            }
            enters(r, m);
            return true;
        }
        return false;
    }

    void rules(int r) {
        while (rule1(r) || rule2(r) || rule3(r) || rule4(r) || rule5(r) || rule6(r) || rule7(r) || rule8(r)) {
            continue;
        }
        Member me = members[r];
        if (me.view == 15 || (!me.changing && waiting(r) == 0)) {
            me.timer = 0;
        } else if (me.timer == 0 || me.timerAnew) {
            me.timer = me.span;
        }
        me.timerAnew = false;
    }

    boolean rule1(int r) {
        Member me = members[r];
        if (me.changing || me.view % 4 == r) {
            return false;
        }
        for (int n : me.accepted.keySet()) {
            if (!hasSent(r, 2, me.view, n)) {
                send(r, 2, me.view, n, me.accepted.get(n));
                return true;
            }
        }
        return false;
    }

    boolean rule2(int r) {
        Member me = members[r];
        for (int n : me.accepted.keySet()) {
            int request = me.accepted.get(n);
            if (!hasSent(r, 3, me.view, n) && notedFor(r, 2, me.view, n, request).size() >= 2) {
                me.cert.put(n, new Cert(me.view, request));
                send(r, 3, me.view, n, request);
                return true;
            }
        }
        return false;
    }

    boolean rule3(int r) {
        Member me = members[r];
        for (int n : me.accepted.keySet()) {
            int request = me.accepted.get(n);
            if (!me.decided.containsKey(n) && hasSent(r, 3, me.view, n)
                    && notedFor(r, 3, me.view, n, request).size() >= 3) {
                me.decided.put(n, request);
                return true;
            }
        }
        return false;
    }

    boolean rule4(int r) {
        Member me = members[r];
        if (!me.decided.containsKey(me.e + 1)) {
            return false;
        }
        me.e++;
        int request = me.decided.get(me.e);
        if (request != -1 && waits(r, request)) {
            serve(r, board.get(request));
        }
        if (me.e % 2 == 0) {
            send(r, 7, me.e, me.state, 0);
        }
        return true;
    }

    void serve(int r, Message q) {
        Member me = members[r];
        int[] values = new int[4];
        for (int k = 0; k < 4; k++) {
            values[k] = (int) (me.state >> (4 * k)) & 15;
        }
        int[] stamps = {(int) (me.state >> 16) & 255, (int) (me.state >> 28) & 255};
        int[] results = {(int) (me.state >> 24) & 15, (int) (me.state >> 36) & 15};
        int key = q.c / 16;
        int value = q.c % 16;
        int client = q.sender - 4;
        int result = values[key];
        if (q.b == 1) {
            values[key] = value;
        } else if (q.b == 2) {
            values[key] = (values[key] + value) % 16;
            result = values[key];
        }
        stamps[client] = q.a;
        results[client] = result;
        long state = 0;
        for (int k = 0; k < 4; k++) {
            state += (long) values[k] << (4 * k);
        }
        me.state = state + ((long) stamps[0] << 16) + ((long) results[0] << 24)
                + ((long) stamps[1] << 28) + ((long) results[1] << 36);
        me.span = 4;
        me.timerAnew = true;
        send(r, 4, client, q.a, result);
    }

    boolean rule5(int r) {
        Member me = members[r];
        TreeMap<Integer, Map<Long, Set<Integer>>> votes = new TreeMap<>();
        for (int m : me.noted) {
            Message x = board.get(m);
            if (x.kind == 7 && x.a > me.h) {
                votes.computeIfAbsent(x.a, n -> new HashMap<>())
                        .computeIfAbsent(x.b, s -> new HashSet<>()).add(x.sender);
            }
        }
        for (int n : votes.descendingKeySet()) {
            for (Map.Entry<Long, Set<Integer>> vote : votes.get(n).entrySet()) {
                if (vote.getValue().size() >= 3) {
                    settles(r, n, vote.getKey());
                    return true;
                }
            }
        }
        return false;
    }

    boolean rule6(int r) {
        Member me = members[r];
        TreeMap<Integer, Integer> ahead = new TreeMap<>();
        int count = 0;
        for (int m : me.viewChanges.values()) {
            if (board.get(m).a > me.view) {
                count++;
                ahead.put(board.get(m).a, m);
            }
        }
        if (count < 2) {
            return false;
        }
        begins(r, ahead.firstKey());
        return true;
    }

    boolean rule7(int r) {
        Member me = members[r];
        if (!me.changing || me.view % 4 != r) {
            return false;
        }
        TreeSet<Integer> voters = new TreeSet<>();
        for (int sender : me.viewChanges.keySet()) {
            if (board.get(me.viewChanges.get(sender)).a == me.view) {
                voters.add(sender);
            }
        }
        if (voters.size() < 3 || !voters.contains(r)) {
            return false;
        }
        if (voters.size() == 4) {
            voters.remove(r == 3 ? 2 : 3);
        }
        int votes = 0;
        int unit = 1;
        for (int sender : voters) {
            votes += unit * me.viewChanges.get(sender);
            unit *= 256;
        }
        int m = send(r, 6, me.view, votes, due(votes));
        enters(r, m);
        return true;
    }

    boolean rule8(int r) {
        Member me = members[r];
        if (me.changing || me.view % 4 != r) {
            return false;
        }
        int next = 1 + (me.accepted.isEmpty() ? me.h : me.accepted.lastKey());
        if (!window(me, next)) {
            return false;
        }
        for (int request : me.knows) {
            if (waits(r, request) && !me.accepted.containsValue(request)) {
                send(r, 1, me.view, next, request);
                me.accepted.put(next, request);
                return true;
            }
        }
        return false;
    }

    void settles(int r, int n, long state) {
        Member me = members[r];
        me.h = n;
        me.accepted.headMap(n, true).clear();
        me.cert.headMap(n, true).clear();
        me.decided.headMap(n, true).clear();
        if (me.e < n) {
            me.e = n;
            me.state = state;
        }
    }

    void begins(int r, int v) {
        Member me = members[r];
        me.view = v;
        me.changing = true;
        me.accepted.clear();
        me.span = Math.min(32, 2 * me.span);
        me.timerAnew = true;
        int claims = 0;
        for (int n : me.cert.keySet()) {
            claims += (1 + me.cert.get(n).view) << (5 * (n - me.h - 1));
        }
        send(r, 5, v, me.h, claims);
    }

    void enters(int r, int m) {
        Member me = members[r];
        Message x = board.get(m);
        me.view = x.a;
        me.changing = false;
        me.accepted.clear();
        me.timerAnew = true;
        int start = start((int) x.b);
        if (start > me.h) {
            settles(r, start, certified(start, m).iterator().next());
        }
        for (int j = 0; j < 4; j++) {
            int n = start + 1 + j;
            int order = (x.c >>> (8 * j)) & 255;
            if (order != 0 && n > me.h) {
                me.accepted.put(n, order - 2);
                if (order != 1) {
                    me.knows.add(order - 2);
                }
            }
        }
    }

    Set<Long> certified(long n, int below) {
        Map<Long, Set<Integer>> senders = new HashMap<>();
        for (int m = 0; m < below; m++) {
            Message x = board.get(m);
            if (x.kind == 7 && x.a == n) {
                senders.computeIfAbsent(x.b, s -> new HashSet<>()).add(x.sender);
            }
        }
        Set<Long> states = new HashSet<>();
        senders.forEach((state, who) -> {
            if (who.size() >= 3) {
                states.add(state);
            }
        });
        if (n == 0) {
            states.add(0L);
        }
        if (states.size() > 1) {
            throw new IllegalStateException("two states are certified");
        }
        return states;
    }

    Set<Integer> backing(int w, long n, int below) {
        Map<Integer, Set<Integer>> senders = new HashMap<>();
        for (int m = 0; m < below; m++) {
            Message x = board.get(m);
            if (x.kind == 2 && x.a == w && x.b == n && x.sender != w % 4) {
                senders.computeIfAbsent(x.c, s -> new HashSet<>()).add(x.sender);
            }
        }
        Set<Integer> requests = new HashSet<>();
        senders.forEach((request, who) -> {
            if (who.size() >= 2) {
                requests.add(request);
            }
        });
        if (requests.size() > 1) {
            throw new IllegalStateException("two requests back one view and number");
        }
        return requests;
    }

    boolean validViewChange(int m) {
        Message x = board.get(m);
        if (x.kind != 5 || x.a < 1 || x.a > 15 || certified(x.b, m).isEmpty() || (x.c & 0xfff00000) != 0) {
            return false;
        }
        for (int j = 0; j < 4; j++) {
            int claim = (x.c >> (5 * j)) % 32;
            if (claim != 0 && (claim - 1 >= x.a || backing(claim - 1, x.b + 1 + j, m).isEmpty())) {
                return false;
            }
        }
        return true;
    }

    boolean validNewView(int m) {
        Message x = board.get(m);
        if (x.kind != 6 || x.a < 1 || x.a > 15 || x.b < 0 || x.b >= 256 * 65536) {
            return false;
        }
        Set<Integer> senders = new HashSet<>();
        for (int vote : votes((int) x.b)) {
            if (vote >= m || !validViewChange(vote) || board.get(vote).a != x.a) {
                return false;
            }
            senders.add(board.get(vote).sender);
        }
        return senders.size() == 3 && due((int) x.b) == x.c;
    }

    int[] votes(int votes) {
        return new int[] {votes % 256, votes / 256 % 256, votes / 65536};
    }

    int start(int votes) {
        long start = 0;
        for (int vote : votes(votes)) {
            start = Math.max(start, board.get(vote).b);
        }
        return (int) start;
    }

    int due(int votes) {
        Integer[] orders = new Integer[4];
        int start = start(votes);
        int top = 0;
        for (int j = 0; j < 4; j++) {
            int greatest = -1;
            for (int vote : votes(votes)) {
                Message x = board.get(vote);
                for (int i = 0; i < 4; i++) {
                    int claim = (x.c >> (5 * i)) % 32;
                    if (x.b + 1 + i == start + 1 + j && claim != 0 && claim - 1 > greatest) {
                        greatest = claim - 1;
                        orders[j] = backing(greatest, start + 1 + j, vote).iterator().next();
                        top = j;
                    }
                }
            }
        }
        int due = 0;
        for (int j = 0; j < 4; j++) {
            int order = orders[j] != null ? orders[j] + 2 : j < top ? 1 : 0;
            due |= order << (8 * j);
        }
        return due;
    }
}
