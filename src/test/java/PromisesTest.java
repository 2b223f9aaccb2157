/** Each promise 1 to 21 by itself: ordinary inputs, the edges that the document names, and wrong inputs. */
public final class PromisesTest extends Scene {
    public static void main(String[] args) {
        PromisesTest test = new PromisesTest();
        test.newObject();
        test.submits();
        test.submitsAgain();
        test.delivers();
        test.deliversPrePrepares();
        test.deliversVotesOfPhases();
        test.deliversReplies();
        test.pumps();
        test.ticks();
        test.corrupts();
        test.forges();
        test.forgesCheckpoints();
        test.looks();
        test.fullBoard();
        test.phasesSeenInSlots();
        test.serves();
        test.orders();
        test.timers();
        test.waits();
        test.asks();
        test.end();
    }

    private void deliver(int m, int party, boolean want) {
        check.due("deliver(" + m + ", " + party + ")", x.deliver(m, party), want);
    }

    // Brings request 0, the only message, to a commit of replicas 1 (message 4), 2 (5) and 0 (6).
    private void commitFirst() {
        take(0, 0);
        take(1, 1);
        take(2, 1);
        take(1, 3);
        take(2, 2);
        take(0, 2, 3);
        check.due("messages()", x.messages(), 7);
    }

    private void newObject() {
        begin("promise 1");
        check.due("messages()", x.messages(), 0);
        for (int party = 0; party < 6; party++) {
            check.due("mark", x.mark(party), 0);
        }
        for (int r = 0; r < 4; r++) {
            check.due("view", x.view(r), 0);
            check.due("executed", x.executed(r), 0);
            check.due("stable", x.stable(r), 0);
            check.due("state", x.state(r), 0);
            check.due("timer", x.timer(r), 0);
            check.due("waiting", x.waiting(r), 0);
            check.due("tick", x.tick(r), false);
            for (int n = 1; n <= 4; n++) {
                check.due("slot", x.slot(r, n), 0);
                check.due("ordered", x.ordered(r, n), -2);
            }
        }
        for (int client = 0; client < 2; client++) {
            check.due("outstanding", x.outstanding(client), 0);
            check.due("answer", x.answer(client), -1);
        }
        check.due("forge", x.forge(1, 0, 1, -1), -1);
        check.due("messages()", x.messages(), 0);
        x.submit(0, 1, 0, 1);
        check.due("messages() of another object", new ThreePhaseGroup().messages(), 0);
    }

    private void submits() {
        begin("promise 2");
        int[][] wrong = {{-1, 0, 0, 0}, {2, 0, 0, 0}, {0, -1, 0, 0}, {0, 3, 0, 0}, {0, 0, -1, 0}, {0, 0, 4, 0},
            {0, 0, 0, -1}, {0, 0, 0, 16}, {Integer.MIN_VALUE, 0, 0, 0}, {0, 0, Integer.MAX_VALUE, 0}};
        for (int[] w : wrong) {
            check.due("wrong submit", x.submit(w[0], w[1], w[2], w[3]), -1);
        }
        check.due("messages()", x.messages(), 0);
        check.due("outstanding(0)", x.outstanding(0), 0);
        check.due("submit(1, 2, 3, 15)", x.submit(1, 2, 3, 15), 0);
        message(0, 0, 5, 1, 2, 63);
        check.due("submit(0, 0, 1, 9)", x.submit(0, 0, 1, 9), 1);
        message(1, 0, 4, 1, 0, 25);
        check.due("a second one outstanding", x.submit(1, 0, 0, 0), -1);
        check.due("messages()", x.messages(), 2);
    }

    private void submitsAgain() {
        begin("promise 2, timestamps");
        check.due("submit", x.submit(0, 1, 0, 3), 0);
        check.due("refused", x.submit(0, 1, 0, 4), -1);
        flood(0, 1, 2, 3, 4);
        check.due("outstanding(0)", x.outstanding(0), 0);
        check.due("answer(0)", x.answer(0), 0);
        int m = x.submit(0, 0, 0, 0);
        check.due("timestamp", x.look(m, 2), 2);
        check.due("outstanding(0)", x.outstanding(0), 2);
        check.due("outstanding(1)", x.outstanding(1), 0);
        flood(0, 1, 2, 3, 4);
        check.due("answer(0)", x.answer(0), 3);
    }

    private void delivers() {
        begin("promise 3");
        deliver(0, 0, false);
        check.due("submit", x.submit(0, 1, 2, 7), 0);
        deliver(-1, 0, false);
        deliver(1, 0, false);
        deliver(Integer.MIN_VALUE, 0, false);
        deliver(0, -1, false);
        deliver(0, 6, false);
        deliver(0, 4, false);
        check.due("messages()", x.messages(), 1);
        deliver(0, 3, true);
        deliver(0, 3, false);
        check.due("waiting(3)", x.waiting(3), 1);
        check.due("messages()", x.messages(), 1);
        deliver(0, 0, true);
        message(1, 1, 0, 0, 1, 0);
        deliver(1, 0, false);
        deliver(1, 4, false);
        deliver(1, 3, true);
        message(2, 2, 3, 0, 1, 0);
        deliver(1, 3, false);
        check.due("messages()", x.messages(), 3);
        check.due("mark(3)", x.mark(3), 0);
        // A replica that learnt the request by the PRE-PREPARE takes the REQUEST no more.
        deliver(1, 2, true);
        deliver(0, 2, false);
        check.due("waiting(2)", x.waiting(2), 1);
    }

    private void deliversPrePrepares() {
        begin("promise 3, PRE-PREPARE");
        x.corrupt(0);
        check.due("submit", x.submit(0, 1, 2, 7), 0);
        x.forge(1, 1, 1, 0);
        x.forge(1, 0, 0, 0);
        x.forge(1, 0, 5, 0);
        x.forge(1, 0, 1, 1);
        x.forge(1, 0, 1, 6);
        x.forge(1, 0, 1, -2);
        x.forge(1, 0, 1, 8);
        refuse(1, 1, 2, 3, 4, 5, 6, 7);
        check.due("submit", x.submit(1, 1, 2, 7), 8);
        refuse(1, 5, 7);
        check.due("forge", x.forge(1, 0, 4, 8), 9);
        check.due("forge", x.forge(1, 0, 2, -1), 10);
        check.due("forge", x.forge(1, 0, 2, 0), 11);
        take(1, 9, 10);
        refuse(1, 11);
        message(12, 2, 1, 0, 4, 8);
        message(13, 2, 1, 0, 2, -1);
        check.due("waiting(1)", x.waiting(1), 1);
        check.due("ordered(1, 2)", x.ordered(1, 2), -1);
        check.due("ordered(1, 4)", x.ordered(1, 4), 8);
        check.due("ordered(1, 1)", x.ordered(1, 1), -2);

        begin("promise 3, PRE-PREPARE not of the primary");
        x.corrupt(2);
        check.due("forge", x.forge(1, 0, 1, -1), 0);
        refuse(1, 0);
        check.due("slot(1, 1)", x.slot(1, 1), 0);
    }

    private void deliversVotesOfPhases() {
        begin("promise 3, PREPARE and COMMIT");
        x.corrupt(3);
        check.due("submit", x.submit(0, 1, 0, 1), 0);
        int[][] fields = {{1, 1, 0}, {0, 0, 0}, {0, 5, 0}, {-1, 1, 0}};
        for (int[] f : fields) {
            refuse(1, x.forge(2, f[0], f[1], f[2]), x.forge(3, f[0], f[1], f[2]));
        }
        // The first one noted of a sender counts, though it is for another request.
        int other = x.forge(2, 0, 1, 77);
        int fitting = x.forge(2, 0, 1, 0);
        take(1, other);
        refuse(1, other, fitting);
        take(2, fitting);
        refuse(2, other);
        take(0, 0);
        int prePrepare = x.messages() - 1;
        take(1, prePrepare);
        check.due("slot(1, 1)", x.slot(1, 1), 9);
        take(2, prePrepare);
        check.due("slot(2, 1)", x.slot(2, 1), 1 + 2 + 16 + 64 + 1024);
        int commit = x.forge(3, 0, 1, 5);
        take(2, commit);
        refuse(2, commit, x.forge(3, 0, 1, 0));
        check.due("slot(2, 1)", x.slot(2, 1), 1 + 2 + 16 + 64 + 1024);

        begin("promise 3, the primary prepares nothing");
        x.corrupt(0);
        int prepare = x.forge(2, 0, 1, -1);
        refuse(1, prepare);
        int fromPrimary = x.forge(3, 0, 1, -1);
        take(1, fromPrimary);
        refuse(1, fromPrimary);
        take(1, x.forge(1, 0, 1, -1));
        check.due("slot(1, 1)", x.slot(1, 1), 1 + 8 + 64);
    }

    private void deliversReplies() {
        begin("promise 3, REPLY");
        x.corrupt(2);
        check.due("forge with nothing outstanding", x.forge(4, 0, 0, 3), 0);
        refuse(4, 0);
        check.due("submit", x.submit(0, 1, 0, 1), 1);
        check.due("forge", x.forge(4, 0, 2, 3), 2);
        check.due("forge", x.forge(4, 1, 1, 3), 3);
        check.due("forge", x.forge(4, 0, 1, 3), 4);
        check.due("forge", x.forge(4, 0, 1, 4), 5);
        refuse(4, 0, 1, 2, 3);
        refuse(5, 0, 1, 2, 3, 4, 5);
        take(4, 4);
        refuse(4, 4, 5);
        refuse(0, 4);
        check.due("outstanding(0)", x.outstanding(0), 1);
        check.due("answer(0)", x.answer(0), -1);
    }

    private void pumps() {
        begin("promise 4");
        check.due("pump(-1, 1)", x.pump(-1, 1), -1);
        check.due("pump(6, 1)", x.pump(6, 1), -1);
        check.due("pump(0, 0)", x.pump(0, 0), -1);
        check.due("pump(0, 9)", x.pump(0, 9), -1);
        check.due("pump(0, MIN)", x.pump(0, Integer.MIN_VALUE), -1);
        check.due("pump(0, 8) of nothing", x.pump(0, 8), 0);
        x.submit(0, 1, 0, 1);
        x.submit(1, 1, 0, 2);
        check.due("pump(0, 1)", x.pump(0, 1), 1);
        check.due("mark(0)", x.mark(0), 1);
        check.due("messages()", x.messages(), 3);
        // The messages that the first of them bring about are given in the same call.
        check.due("pump(0, 8)", x.pump(0, 8), 1);
        check.due("mark(0)", x.mark(0), 4);
        check.due("messages()", x.messages(), 4);
        deliver(0, 1, true);
        check.due("mark(1)", x.mark(1), 0);
        check.due("pump(1, 3)", x.pump(1, 3), 2);
        check.due("mark(1)", x.mark(1), 3);
        check.due("pump(4, 2)", x.pump(4, 2), 0);
        check.due("mark(4)", x.mark(4), 2);
        x.corrupt(2);
        check.due("pump(2, 3) of a faulty one", x.pump(2, 3), 0);
        check.due("mark(2)", x.mark(2), 3);
        check.due("waiting(2)", x.waiting(2), 0);
    }

    private void ticks() {
        begin("promise 5");
        check.due("tick(-1)", x.tick(-1), false);
        check.due("tick(4)", x.tick(4), false);
        check.due("tick(1)", x.tick(1), false);
        x.submit(0, 1, 0, 1);
        take(1, 0);
        take(2, 0);
        check.due("timer(1)", x.timer(1), 4);
        for (int left = 3; left >= 1; left--) {
            check.due("tick(1)", x.tick(1), true);
            check.due("timer(1)", x.timer(1), left);
            check.due("view(1)", x.view(1), 0);
        }
        check.due("tick(1)", x.tick(1), true);
        check.due("view(1)", x.view(1), 17);
        check.due("timer(1)", x.timer(1), 8);
        check.due("messages()", x.messages(), 2);
        message(1, 5, 1, 1, 0, 0);
        check.due("timer(2)", x.timer(2), 4);
        x.corrupt(2);
        check.due("tick(2)", x.tick(2), false);
        check.due("timer(2)", x.timer(2), 4);
    }

    private void corrupts() {
        begin("promise 6");
        check.due("corrupt(-1)", x.corrupt(-1), false);
        check.due("corrupt(4)", x.corrupt(4), false);
        x.submit(0, 1, 0, 9);
        commitFirst();
        take(1, 5);
        int slot = x.slot(1, 1);
        check.due("slot(1, 1)", slot, 1 + 2 + 16 + 128 + 1024);
        check.due("corrupt(1)", x.corrupt(1), true);
        check.due("corrupt(1)", x.corrupt(1), false);
        check.due("corrupt(2)", x.corrupt(2), false);
        refuse(1, 6);
        check.due("slot(1, 1)", x.slot(1, 1), slot);
        check.due("timer(1)", x.timer(1), 4);
        check.due("waiting(1)", x.waiting(1), 1);
        check.due("executed(1)", x.executed(1), 0);
        check.due("ordered(1, 1)", x.ordered(1, 1), 0);
        check.due("view(1)", x.view(1), 0);
        take(2, 4, 6);
        check.due("executed(2)", x.executed(2), 1);

        begin("promise 6, what it forges is not sent by it");
        x.submit(0, 1, 0, 9);
        take(0, 0);
        take(1, 1);
        check.due("slot(1, 1)", x.slot(1, 1), 9);
        x.corrupt(1);
        check.due("forge", x.forge(3, 0, 1, 0), 3);
        check.due("forge", x.forge(5, 1, 0, 0), 4);
        check.due("slot(1, 1)", x.slot(1, 1), 9);
        check.due("view(1)", x.view(1), 0);
    }

    private void forges() {
        begin("promise 7");
        for (int kind = 1; kind <= 6; kind++) {
            check.due("forge without a faulty one", x.forge(kind, 0, 1, -1), -1);
        }
        check.due("messages()", x.messages(), 0);
        x.corrupt(2);
        int[] wrong = {-1, 0, 7, 8, Integer.MAX_VALUE};
        for (int kind : wrong) {
            check.due("forge of kind " + kind, x.forge(kind, 0, 1, -1), -1);
        }
        check.due("messages()", x.messages(), 0);
        for (int kind = 1; kind <= 6; kind++) {
            check.due("forge of kind " + kind, x.forge(kind, -5, Integer.MIN_VALUE, Integer.MAX_VALUE), kind - 1);
            message(kind - 1, kind, 2, -5, Integer.MIN_VALUE, Integer.MAX_VALUE);
            check.due("look(.., 5)", x.look(kind - 1, 5), 0);
            for (int party = 0; party < 6; party++) {
                deliver(kind - 1, party, false);
            }
        }
    }

    private void forgesCheckpoints() {
        begin("promise 8");
        check.due("forgeCheckpoint", x.forgeCheckpoint(2, 5), -1);
        check.due("messages()", x.messages(), 0);
        x.corrupt(3);
        check.due("forgeCheckpoint", x.forgeCheckpoint(-7, Long.MIN_VALUE), 0);
        message(0, 7, 3, -7, Long.MIN_VALUE, 0);
        check.due("forgeCheckpoint", x.forgeCheckpoint(2, Long.MAX_VALUE), 1);
        message(1, 7, 3, 2, Long.MAX_VALUE, 0);
        check.due("look(1, 5)", x.look(1, 5), 0);
        check.due("forgeCheckpoint", x.forgeCheckpoint(2, 6), 2);
        check.due("forgeCheckpoint", x.forgeCheckpoint(3, 6), 3);
        check.due("forgeCheckpoint", x.forgeCheckpoint(0, 6), 4);
        check.due("forgeCheckpoint", x.forgeCheckpoint(Integer.MAX_VALUE - 1, 6), 5);
        check.due("forgeCheckpoint", x.forgeCheckpoint(-2, 6), 6);
        refuse(0, 0, 3, 4, 6);
        take(0, 1, 5);
        refuse(0, 1, 2, 5);
        take(1, 2);
        refuse(1, 1);
        refuse(3, 2);
        check.due("stable(0)", x.stable(0), 0);
    }

    private void looks() {
        begin("promises 9, 10 and 11");
        check.due("look(0, 0)", x.look(0, 0), -1);
        check.due("look(-1, 0)", x.look(-1, 0), -1);
        x.submit(1, 2, 1, 4);
        check.due("messages()", x.messages(), 1);
        message(0, 0, 5, 1, 2, 20);
        check.due("look(0, 5)", x.look(0, 5), 0);
        check.due("look(0, 6)", x.look(0, 6), -1);
        check.due("look(0, -1)", x.look(0, -1), -1);
        check.due("look(1, 0)", x.look(1, 0), -1);
        check.due("look(MAX, 0)", x.look(Integer.MAX_VALUE, 0), -1);
        check.due("mark(-1)", x.mark(-1), -1);
        check.due("mark(6)", x.mark(6), -1);
        check.due("mark(5)", x.mark(5), 0);
        x.pump(5, 8);
        check.due("mark(5)", x.mark(5), 1);
        check.due("mark(4)", x.mark(4), 0);
    }

    private void fullBoard() {
        begin("a full board");
        x.corrupt(3);
        x.submit(0, 1, 0, 1);
        take(1, 0);
        for (int m = 1; m < 149; m++) {
            check.due("forge", x.forge(1, 0, 9, m), m);
        }
        check.due("pump(2, 1) at 149", x.pump(2, 1), 1);
        check.due("tick(1) at 149", x.tick(1), true);
        check.due("forgeCheckpoint at 149", x.forgeCheckpoint(2, 1), 149);
        check.due("messages()", x.messages(), 150);
        check.due("forge", x.forge(1, 0, 1, -1), -1);
        check.due("forgeCheckpoint", x.forgeCheckpoint(2, 1), -1);
        check.due("submit", x.submit(1, 1, 0, 1), -1);
        check.due("outstanding(1)", x.outstanding(1), 0);
        deliver(0, 0, false);
        check.due("waiting(0)", x.waiting(0), 0);
        check.due("pump(2, 8)", x.pump(2, 8), 0);
        check.due("mark(2)", x.mark(2), 1);
        check.due("pump(2, 9)", x.pump(2, 9), -1);
        check.due("tick(1)", x.tick(1), false);
        check.due("timer(1)", x.timer(1), 3);
        check.due("messages()", x.messages(), 150);
        check.due("look(149, 3)", x.look(149, 3), 1);
        check.due("look(150, 3)", x.look(150, 3), -1);

        begin("a board that one delivery fills");
        x.corrupt(3);
        x.submit(0, 1, 0, 1);
        x.submit(1, 1, 0, 1);
        for (int m = 2; m < 149; m++) {
            x.forge(4, 0, 9, m);
        }
        check.due("pump(0, 8)", x.pump(0, 8), 1);
        check.due("mark(0)", x.mark(0), 1);
        check.due("messages()", x.messages(), 150);
    }

    private void phasesSeenInSlots() {
        begin("promises 13, 16 and 17");
        x.submit(0, 1, 2, 7);
        take(0, 0);
        check.due("slot(0, 1)", x.slot(0, 1), 1);
        take(1, 1);
        message(2, 2, 1, 0, 1, 0);
        check.due("slot(1, 1)", x.slot(1, 1), 9);
        take(2, 1);
        take(1, 3);
        message(4, 3, 1, 0, 1, 0);
        check.due("slot(1, 1)", x.slot(1, 1), 1 + 2 + 16 + 64 + 1024);
        take(2, 2);
        take(0, 2);
        check.due("slot(0, 1)", x.slot(0, 1), 9);
        take(0, 3);
        message(6, 3, 0, 0, 1, 0);
        take(0, 4);
        check.due("slot(0, 1)", x.slot(0, 1), 1 + 2 + 16 + 128 + 1024);
        check.due("executed(0)", x.executed(0), 0);
        take(0, 5);
        check.due("slot(0, 1)", x.slot(0, 1), 1 + 2 + 4 + 16 + 192 + 1024);
        check.due("executed(0)", x.executed(0), 1);
        message(7, 4, 0, 0, 1, 0);
        check.due("messages()", x.messages(), 8);
        check.due("ordered(0, 1)", x.ordered(0, 1), 0);
        check.due("ordered(3, 1)", x.ordered(3, 1), -2);
        // Commits come before all else here, and count once the replica has sent its own.
        take(3, 4, 5, 6);
        check.due("slot(3, 1)", x.slot(3, 1), 0);
        take(3, 2, 1);
        check.due("executed(3)", x.executed(3), 1);
        check.due("slot(3, 1)", x.slot(3, 1), 1 + 2 + 4 + 16 + 256 + 1024);
        int[] wrong = {-1, 4, Integer.MIN_VALUE};
        for (int r : wrong) {
            check.due("slot of no replica", x.slot(r, 1), -1);
            check.due("ordered of no replica", x.ordered(r, 1), -2);
            check.due("view of no replica", x.view(r), -1);
            check.due("executed of no replica", x.executed(r), -1);
            check.due("stable of no replica", x.stable(r), -1);
            check.due("state of no replica", x.state(r), -1);
            check.due("timer of no replica", x.timer(r), -1);
            check.due("waiting of no replica", x.waiting(r), -1);
        }
        int[] outside = {0, -1, 5, Integer.MAX_VALUE, Integer.MIN_VALUE};
        for (int n : outside) {
            check.due("slot outside of the window", x.slot(0, n), -1);
            check.due("ordered outside of the window", x.ordered(0, n), -2);
        }
    }

    private void serves() {
        begin("promise 15");
        long[][] calls = {
            // client, op, key, value, answer due
            {0, 1, 1, 9, 0},
            {1, 2, 1, 9, 2},
            {0, 0, 1, 15, 2},
            {1, 1, 3, 6, 0},
            {0, 2, 3, 1, 7},
        };
        for (long[] call : calls) {
            x.submit((int) call[0], (int) call[1], (int) call[2], (int) call[3]);
            flood(0, 1, 2, 3, 4, 5);
            check.due("answer", x.answer((int) call[0]), call[4]);
        }
        long values = (2 << 4) + (7 << 12);
        long first = (3L << 16) + (7L << 24);
        long second = 2L << 28;
        for (int r = 0; r < 4; r++) {
            check.due("state", x.state(r), values + first + second);
            check.due("executed", x.executed(r), 5);
            check.due("stable", x.stable(r), 4);
        }

        begin("promise 15, the result of client 1");
        x.submit(1, 2, 0, 13);
        flood(0, 1, 2, 3, 4, 5);
        check.due("state(2)", x.state(2), 13 + (1L << 28) + (13L << 36));
    }

    private void orders() {
        begin("the least request is ordered first");
        x.submit(0, 1, 0, 1);
        x.submit(1, 1, 0, 2);
        take(0, 1, 0);
        message(2, 1, 0, 0, 1, 1);
        message(3, 1, 0, 0, 2, 0);
        check.due("ordered(0, 1)", x.ordered(0, 1), 1);
        check.due("ordered(0, 2)", x.ordered(0, 2), 0);
        // Number 2 is decided first, but executed only after number 1.
        take(1, 3);
        take(2, 3);
        take(0, 4, 5);
        take(1, 5, 6);
        take(2, 4);
        take(0, 7, 8);
        check.due("slot(0, 2)", x.slot(0, 2), 1 + 2 + 4 + 16 + 192 + 1024);
        check.due("executed(0)", x.executed(0), 0);
        check.due("timer(0)", x.timer(0), 4);
        flood(0, 1, 2, 3, 4, 5);
        check.due("executed(0)", x.executed(0), 2);
        check.due("state(0)", x.state(0), 1 + (1L << 16) + (2L << 24) + (1L << 28));
    }

    private void timers() {
        begin("promise 18");
        x.submit(0, 1, 0, 1);
        x.submit(1, 1, 0, 2);
        take(0, 0);
        check.due("timer(0)", x.timer(0), 4);
        check.due("timer(1)", x.timer(1), 0);
        x.tick(0);
        x.tick(0);
        check.due("timer(0)", x.timer(0), 2);
        take(0, 1);
        check.due("timer(0) runs on", x.timer(0), 2);
        take(1, 2);
        take(2, 2);
        take(0, 4, 5);
        take(1, 5);
        take(2, 4);
        check.due("timer(0) runs on", x.timer(0), 2);
        take(0, 7, 8);
        check.due("executed(0)", x.executed(0), 1);
        check.due("timer(0) anew, as a request was executed", x.timer(0), 4);
        flood(0, 1, 2, 3, 4, 5);
        check.due("timer(0) stops, as none waits", x.timer(0), 0);
        check.due("tick(0)", x.tick(0), false);
    }

    private void waits() {
        begin("promise 19");
        x.submit(0, 1, 0, 1);
        x.submit(1, 1, 0, 2);
        take(3, 1);
        check.due("waiting(3)", x.waiting(3), 1);
        take(3, 0);
        check.due("waiting(3)", x.waiting(3), 2);
        check.due("waiting(0)", x.waiting(0), 0);
        flood(0, 1, 2, 3);
        for (int r = 0; r < 4; r++) {
            check.due("waiting", x.waiting(r), 0);
        }
        refuse(3, 0, 1);
    }

    private void asks() {
        begin("promises 20 and 21");
        int[] wrong = {-1, 2, 5};
        for (int client : wrong) {
            check.due("outstanding of no client", x.outstanding(client), -1);
            check.due("answer of no client", x.answer(client), -1);
        }
        x.corrupt(3);
        x.submit(0, 2, 0, 5);
        commitFirst();
        take(0, 4, 5);
        message(7, 4, 0, 0, 1, 5);
        take(1, 5, 6);
        message(8, 4, 1, 0, 1, 5);
        int lie = x.forge(4, 0, 1, 6);
        take(4, lie, 7);
        check.due("two different replies", x.outstanding(0), 1);
        check.due("answer(0)", x.answer(0), -1);
        take(4, 8);
        check.due("outstanding(0)", x.outstanding(0), 0);
        check.due("answer(0)", x.answer(0), 5);
        check.due("answer(1)", x.answer(1), -1);
        take(2, 4, 6);
        refuse(4, x.messages() - 1);
        x.submit(0, 0, 0, 0);
        check.due("answer(0) while the next is outstanding", x.answer(0), 5);
        refuse(4, 7, 8);
        take(4, x.forge(4, 0, 2, 5));
        check.due("outstanding(0)", x.outstanding(0), 2);
    }
}
