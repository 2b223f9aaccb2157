import java.util.Arrays;

/** What the tests that play scenes have in common. */
abstract class Scene {
    static final int REQUEST = 0;
    static final int PRE_PREPARE = 1;
    static final int PREPARE = 2;
    static final int COMMIT = 3;
    static final int REPLY = 4;
    static final int VIEW_CHANGE = 5;
    static final int NEW_VIEW = 6;
    static final int CHECKPOINT = 7;

    static final int MIN = Integer.MIN_VALUE;
    static final int MAX = Integer.MAX_VALUE;

    /** The state after the two requests of submitTwo(), and after those and two more of the same. */
    static final long AFTER_TWO = 5 + (6 << 4) + (1L << 16) + (1L << 28);
    static final long AFTER_FOUR = 5 + (6 << 4) + (2L << 16) + (5L << 24) + (2L << 28) + (6L << 36);

    /** What slot() adds up: ACCEPTED, the COMMIT sent, DECIDED, each PREPARE, each COMMIT, each view of CERT. */
    static final int ACCEPTED = 1;
    static final int SENT = 2;
    static final int DECIDED = 4;
    static final int PREPARED = 8;
    static final int COMMITTED = 64;
    static final int CERT = 1024;

    final Check check = new Check();
    Watched x;
    private final int[] given = new int[6];

    void begin(String name) {
        closeScene();
        check.part(name);
        x = new Watched(check);
        Arrays.fill(given, 0);
    }

    void end() {
        closeScene();
        check.end();
    }

    private void closeScene() {
        if (x != null) {
            x.close();
        }
    }

    void take(int party, int... numbers) {
        for (int m : numbers) {
            check.due("deliver(" + m + ", " + party + ")", x.deliver(m, party), true);
        }
    }

    void refuse(int party, int... numbers) {
        for (int m : numbers) {
            check.due("deliver(" + m + ", " + party + ")", x.deliver(m, party), false);
        }
    }

    void message(int m, long kind, long sender, long a, long b, long c) {
        long[] want = {kind, sender, a, b, c};
        for (int k = 0; k < want.length; k++) {
            check.due("look(" + m + ", " + k + ")", x.look(m, k), want[k]);
        }
    }

    void valid(int m, boolean want) {
        check.due("look(" + m + ", 5)", x.look(m, 5), want ? 1 : 0);
    }

    int last() {
        return x.messages() - 1;
    }

    /** The number of the first such message; -1 if there is none. */
    int find(int kind, int sender, int a, long b) {
        for (int m = 0; m < x.messages(); m++) {
            if (x.look(m, 0) == kind && x.look(m, 1) == sender && x.look(m, 2) == a && x.look(m, 3) == b) {
                return m;
            }
        }
        return -1;
    }

    int checkpoint(int r, int n) {
        for (int m = 0; m < x.messages(); m++) {
            if (x.look(m, 0) == CHECKPOINT && x.look(m, 1) == r && x.look(m, 2) == n) {
                return m;
            }
        }
        return -1;
    }

    /** The number of the first NEW-VIEW for the view. */
    int newViewOf(int view) {
        for (int m = 0; m < x.messages(); m++) {
            if (x.look(m, 0) == NEW_VIEW && x.look(m, 2) == view) {
                return m;
            }
        }
        return -1;
    }

    /** Ticks until the replica begins a change; the number of its VIEW-CHANGE. */
    int expire(int r) {
        int before = x.view(r) % 16;
        int sent = x.messages();
        for (int i = 0; i < 40 && x.view(r) % 16 == before; i++) {
            check.due("tick(" + r + ")", x.tick(r), true);
        }
        return sent;
    }

    /** Pumps until these parties have had every message, or the board is full. */
    void flood(int... parties) {
        boolean some = true;
        for (int round = 0; round < 60 && some; round++) {
            some = false;
            for (int party : parties) {
                if (x.mark(party) < x.messages() && x.messages() < 150) {
                    x.pump(party, 8);
                    some = true;
                }
            }
        }
    }

    /** Gives each message to replicas 0, 1, 2 and to the clients; checkpoints only if they shall come through. */
    void spread(boolean checkpoints) {
        spread(checkpoints, 0, 1, 2, 4, 5);
    }

    /** Gives each message once to each of these parties that may take it. */
    void spread(boolean checkpoints, int... parties) {
        for (int round = 0; round < 30; round++) {
            for (int party : parties) {
                for (; given[party] < x.messages(); given[party]++) {
                    long kind = x.look(given[party], 0);
                    boolean fits = party < 4 ? kind != REPLY && x.look(given[party], 1) != party : kind == REPLY;
                    if (fits && (checkpoints || kind != CHECKPOINT)) {
                        x.deliver(given[party], party);
                    }
                }
            }
        }
    }

    /** Both clients' requests are executed by replicas 0, 1 and 2; replica 3 sleeps. */
    void submitTwo(boolean checkpoints) {
        x.submit(0, 1, 0, 5);
        x.submit(1, 1, 1, 6);
        spread(checkpoints);
    }

    /** The faulty replica forges what nobody takes until that many messages lie on the board. */
    void fill(int messages) {
        while (x.messages() < messages) {
            x.forge(REPLY, 9, 9, 9);
        }
        check.due("messages()", x.messages(), messages);
    }
}
