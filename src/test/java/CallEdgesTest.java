import java.util.ArrayList;
import java.util.List;

/**
 * The boundary cases that promises 1 to 21 name, call by call: the last value that is allowed and the first that is
 * not, on both sides. That a refused call changes nothing is seen to in Watched.
 */
public final class CallEdgesTest extends Scene {
    // No replica; the greatest ones are a client's party or client, for those who mix them up.
    private static final int[] NO_REPLICA = {MIN, -1, 4, 5, MAX};
    private static final int[] NO_PARTY = {MIN, -1, 6, MAX};
    private static final int[] NO_CLIENT = {MIN, -1, 2, 4, 5, MAX};

    public static void main(String[] args) {
        CallEdgesTest test = new CallEdgesTest();
        test.newObject();
        test.submitsWithinItsRanges();
        test.submitsOneAtATime();
        test.submitsUntilFull();
        test.deliversWhatThereIs();
        test.deliversUntilFull();
        test.pumpsWithinItsRanges();
        test.pumpsUntilTheLastMessage();
        test.pumpsUntilFull();
        test.ticksReplicas();
        test.ticksARunningTimer();
        test.ticksNoFaultyOne();
        test.ticksUntilFull();
        test.corruptsReplicas();
        test.corruptsOne();
        test.corruptsOnAFullBoard();
        test.forgesForAFaultyOne();
        test.forgesKinds();
        test.forgesUntilFull();
        test.forgesCheckpoints();
        test.forgesCheckpointsUntilFull();
        test.fillsBeyondTheEdge();
        test.fillsFarBeyondTheEdge();
        test.countsMessages();
        test.looksAtMessages();
        test.looksAtFields();
        test.marksParties();
        test.asksReplicas();
        test.viewsWhileChanging();
        test.asksWithinTheWindow();
        test.asksWithinAWindowThatMoved();
        test.sumsUpASlot();
        test.ordersDecidedOnes();
        test.asksClients();
        test.changesNothingByLooking();
        test.end();
    }

    private void newObject() {
        begin("1: nothing on the board, no requests, all correct");
        check.due("look(0, 0)", x.look(0, 0), -1);
        for (int party = 0; party < 6; party++) {
            refuse(party, 0);
            check.due("pump of nothing", x.pump(party, 8), 0);
            check.due("mark", x.mark(party), 0);
        }
        check.due("forge, as none is faulty", x.forge(PRE_PREPARE, 0, 1, -1), -1);
        check.due("forgeCheckpoint, as none is faulty", x.forgeCheckpoint(2, 0), -1);
        check.due("corrupt(0), as none is faulty", x.corrupt(0), true);
    }

    private void submitsWithinItsRanges() {
        submitsWithin("the client", 0, 0, 1);
        submitsWithin("the op", 1, 0, 2);
        submitsWithin("the key", 2, 0, 3);
        submitsWithin("the value", 3, 0, 15);
    }

    private void submitsWithin(String name, int place, int least, int greatest) {
        int[] wrong = {MIN, least - 1, greatest + 1, MAX};
        for (int right = least; right <= greatest; right++) {
            begin("2: " + name + " " + right);
            int[] f = {1, 1, 2, 7};
            for (int w : wrong) {
                f[place] = w;
                check.due("submit with " + name + " " + w, x.submit(f[0], f[1], f[2], f[3]), -1);
                check.due("messages()", x.messages(), 0);
                check.due("outstanding(1)", x.outstanding(1), 0);
            }
            f[place] = right;
            check.due("submit with " + name + " " + right, x.submit(f[0], f[1], f[2], f[3]), 0);
            // The refused ones were not counted: this is the first.
            message(0, REQUEST, 4 + f[0], 1, f[1], 16 * f[2] + f[3]);
            check.due("outstanding", x.outstanding(f[0]), 1);
            check.due("outstanding of the other", x.outstanding(1 - f[0]), 0);
        }
    }

    private void submitsOneAtATime() {
        begin("2: one of its requests is outstanding");
        x.corrupt(3);
        check.due("submit", x.submit(0, 2, 0, 4), 0);
        check.due("submit, one is outstanding", x.submit(0, 1, 2, 7), -1);
        check.due("submit of the other", x.submit(1, 0, 3, 15), 1);
        message(1, REQUEST, 5, 1, 0, 63);
        check.due("submit, one is outstanding", x.submit(1, 1, 2, 7), -1);
        spread(true);
        check.due("outstanding(0)", x.outstanding(0), 0);
        int third = x.submit(0, 0, 0, 0);
        message(third, REQUEST, 4, 2, 0, 0);
        take(4, x.forge(REPLY, 0, 2, 4));
        check.due("submit after one reply", x.submit(0, 1, 2, 7), -1);
        check.due("outstanding(0)", x.outstanding(0), 2);
        spread(true);
        check.due("answer(0)", x.answer(0), 4);
        message(x.submit(0, 1, 2, 7), REQUEST, 4, 3, 1, 39);
    }

    private void submitsUntilFull() {
        begin("2: the board is full");
        x.corrupt(3);
        fill(148);
        check.due("submit at 148", x.submit(0, 1, 2, 7), 148);
        check.due("submit at 149", x.submit(1, 1, 2, 7), 149);
        check.due("messages()", x.messages(), 150);

        begin("2: the board is full before the last submit");
        x.corrupt(3);
        fill(150);
        check.due("submit at 150", x.submit(0, 1, 2, 7), -1);
        check.due("submit at 150", x.submit(1, 1, 2, 7), -1);
        check.due("messages()", x.messages(), 150);
        check.due("outstanding(0)", x.outstanding(0), 0);
    }

    private void deliversWhatThereIs() {
        begin("3: no such message");
        refuse(0, 0, -1);
        x.submit(0, 1, 2, 7);
        x.submit(1, 1, 2, 7);
        refuse(1, MIN, -1, 2, MAX);
        check.due("waiting(1)", x.waiting(1), 0);
        take(1, 0, 1);

        begin("3: no such party");
        x.submit(0, 1, 2, 7);
        x.submit(1, 1, 2, 7);
        for (int party : NO_PARTY) {
            refuse(party, 0, 1);
        }
        take(0, 0);
        take(3, 0);
        x.corrupt(2);
        int first = x.forge(REPLY, 0, 1, 3);
        int second = x.forge(REPLY, 1, 1, 3);
        for (int party : NO_PARTY) {
            refuse(party, first, second);
        }
        take(4, first);
        take(5, second);
    }

    private void deliversUntilFull() {
        begin("3: the board is not full");
        x.submit(0, 1, 2, 7);
        x.corrupt(3);
        int reply = x.forge(REPLY, 0, 1, 3);
        fill(149);
        take(4, reply);
        take(1, 0);
        take(0, 0);
        message(149, PRE_PREPARE, 0, 0, 1, 0);

        begin("3: the board is full");
        x.submit(0, 1, 2, 7);
        x.corrupt(3);
        x.forge(REPLY, 0, 1, 3);
        fill(150);
        refuse(4, 1);
        refuse(1, 0);
        refuse(0, 0);
        check.due("waiting(1)", x.waiting(1), 0);
        check.due("messages()", x.messages(), 150);
    }

    private void pumpsWithinItsRanges() {
        begin("4: no such party");
        x.submit(0, 1, 2, 7);
        for (int party : NO_PARTY) {
            check.due("pump(" + party + ", 1)", x.pump(party, 1), -1);
            check.due("pump(" + party + ", 0)", x.pump(party, 0), -1);
        }
        for (int party = 0; party < 6; party++) {
            check.due("mark(" + party + ")", x.mark(party), 0);
            check.due("pump(" + party + ", 1)", x.pump(party, 1), party < 4 ? 1 : 0);
            check.due("mark(" + party + ")", x.mark(party), 1);
        }

        begin("4: n is none");
        x.corrupt(3);
        fill(20);
        int[] wrong = {MIN, -1, 0, 9, MAX};
        for (int n : wrong) {
            check.due("pump(1, " + n + ")", x.pump(1, n), -1);
            check.due("mark(1)", x.mark(1), 0);
        }
        check.due("pump(1, 1)", x.pump(1, 1), 0);
        check.due("mark(1)", x.mark(1), 1);
        check.due("pump(1, 8)", x.pump(1, 8), 0);
        check.due("mark(1)", x.mark(1), 9);
        check.due("pump(1, 7)", x.pump(1, 7), 0);
        check.due("mark(1)", x.mark(1), 16);

        begin("4: eight may all be taken");
        x.corrupt(3);
        for (int n = 2; n <= 18; n += 2) {
            x.forgeCheckpoint(n, 0);
        }
        check.due("pump(1, 8)", x.pump(1, 8), 8);
        check.due("pump(1, 8)", x.pump(1, 8), 1);
    }

    private void pumpsUntilTheLastMessage() {
        begin("4: no message with the number of the mark");
        check.due("pump(1, 1)", x.pump(1, 1), 0);
        x.submit(0, 1, 2, 7);
        x.submit(1, 1, 2, 7);
        check.due("pump(1, 8)", x.pump(1, 8), 2);
        check.due("mark(1)", x.mark(1), 2);
        check.due("pump(1, 8)", x.pump(1, 8), 0);
        check.due("mark(1)", x.mark(1), 2);
        // What the given ones bring about follows in the same call, and what is not taken moves the mark too.
        check.due("pump(0, 3)", x.pump(0, 3), 2);
        check.due("mark(0)", x.mark(0), 3);
        check.due("pump(0, 3)", x.pump(0, 3), 0);
        check.due("mark(0)", x.mark(0), 4);
        check.due("mark(1)", x.mark(1), 2);
        check.due("pump(1, 3)", x.pump(1, 3), 2);
        // Each PRE-PREPARE brought about a PREPARE; of these only the first was within the three.
        check.due("mark(1)", x.mark(1), 5);
    }

    private void pumpsUntilFull() {
        begin("4: the board fills");
        x.submit(0, 1, 2, 7);
        x.submit(1, 1, 2, 7);
        x.corrupt(3);
        x.forgeCheckpoint(2, 1);
        fill(148);
        check.due("pump(0, 8)", x.pump(0, 8), 2);
        check.due("mark(0)", x.mark(0), 2);
        check.due("messages()", x.messages(), 150);

        begin("4: the board is full");
        x.submit(0, 1, 2, 7);
        x.corrupt(3);
        fill(149);
        check.due("pump(1, 1)", x.pump(1, 1), 1);
        x.forge(REPLY, 0, 9, 9);
        for (int party = 0; party < 6; party++) {
            int before = x.mark(party);
            check.due("pump(" + party + ", 8)", x.pump(party, 8), 0);
            check.due("mark(" + party + ")", x.mark(party), before);
        }
        check.due("pump(-1, 8)", x.pump(-1, 8), -1);
        check.due("pump(0, 9)", x.pump(0, 9), -1);
        check.due("waiting(0)", x.waiting(0), 0);
    }

    private void ticksReplicas() {
        begin("5: no such replica");
        x.submit(0, 1, 2, 7);
        for (int r = 0; r < 4; r++) {
            take(r, 0);
        }
        for (int r : NO_REPLICA) {
            check.due("tick(" + r + ")", x.tick(r), false);
        }
        for (int r = 0; r < 4; r++) {
            check.due("tick(" + r + ")", x.tick(r), true);
            check.due("timer(" + r + ")", x.timer(r), 3);
        }
    }

    private void ticksARunningTimer() {
        begin("5: its TIMER is 0");
        for (int r = 0; r < 4; r++) {
            check.due("tick(" + r + ")", x.tick(r), false);
        }
        x.submit(0, 1, 2, 7);
        take(2, 0);
        check.due("tick(1)", x.tick(1), false);
        check.due("tick(2)", x.tick(2), true);
        check.due("tick(2)", x.tick(2), true);
        check.due("tick(2)", x.tick(2), true);
        check.due("timer(2)", x.timer(2), 1);
        check.due("view(2) at the last step before 0", x.view(2), 0);
        check.due("messages()", x.messages(), 1);
        check.due("tick(2)", x.tick(2), true);
        check.due("view(2)", x.view(2), 17);
        message(1, VIEW_CHANGE, 2, 1, 0, 0);
    }

    private void ticksNoFaultyOne() {
        begin("5: it is faulty");
        x.submit(0, 1, 2, 7);
        take(2, 0);
        take(1, 0);
        check.due("tick(2)", x.tick(2), true);
        x.corrupt(2);
        for (int i = 0; i < 4; i++) {
            check.due("tick(2)", x.tick(2), false);
        }
        check.due("timer(2)", x.timer(2), 3);
        check.due("view(2)", x.view(2), 0);
        check.due("tick(1)", x.tick(1), true);
    }

    private void ticksUntilFull() {
        begin("5: the board is full");
        x.submit(0, 1, 2, 7);
        take(1, 0);
        take(2, 0);
        x.corrupt(3);
        for (int i = 0; i < 3; i++) {
            check.due("tick(1)", x.tick(1), true);
        }
        fill(149);
        check.due("tick(2) at 149", x.tick(2), true);
        check.due("timer(2)", x.timer(2), 3);
        check.due("tick(1) at 149", x.tick(1), true);
        message(149, VIEW_CHANGE, 1, 1, 0, 0);
        check.due("tick(2) at 150", x.tick(2), false);
        check.due("timer(2)", x.timer(2), 3);
        check.due("tick(1) at 150", x.tick(1), false);
        check.due("timer(1)", x.timer(1), 8);
    }

    private void corruptsReplicas() {
        for (int r = 0; r < 4; r++) {
            begin("6: replica " + r);
            for (int none : NO_REPLICA) {
                check.due("corrupt(" + none + ")", x.corrupt(none), false);
                check.due("forge", x.forge(REPLY, 0, 1, 1), -1);
            }
            check.due("corrupt(" + r + ")", x.corrupt(r), true);
            message(x.forge(REPLY, 0, 1, 1), REPLY, r, 0, 1, 1);
        }
    }

    private void corruptsOne() {
        begin("6: one is faulty already");
        x.submit(0, 1, 2, 7);
        check.due("corrupt(1)", x.corrupt(1), true);
        for (int r = -1; r <= 4; r++) {
            check.due("corrupt(" + r + ")", x.corrupt(r), false);
        }
        message(x.forge(REPLY, 0, 1, 1), REPLY, 1, 0, 1, 1);
        refuse(1, 0);
        take(0, 0);
        take(2, 0);
        take(3, 0);
        check.due("tick(0)", x.tick(0), true);
    }

    // Nothing but work fills this board, so that none is faulty until it is full.
    private void corruptsOnAFullBoard() {
        begin("6: a full board keeps none from becoming faulty");
        for (int i = 0; i < 20 && x.messages() < 150; i++) {
            x.submit(i % 2, 2, i % 4, 1);
            flood(0, 1, 2, 3, 4, 5);
        }
        check.due("full", x.messages() >= 150, true);
        check.due("forge, as none is faulty", x.forge(REPLY, 0, 1, 1), -1);
        check.due("corrupt(4)", x.corrupt(4), false);
        check.due("corrupt(2)", x.corrupt(2), true);
        check.due("corrupt(3)", x.corrupt(3), false);
        check.due("forge", x.forge(REPLY, 0, 1, 1), -1);
    }

    private void forgesForAFaultyOne() {
        begin("7 and 8: none is faulty");
        for (int kind = 0; kind <= 7; kind++) {
            check.due("forge of kind " + kind, x.forge(kind, 0, 1, -1), -1);
        }
        check.due("forgeCheckpoint", x.forgeCheckpoint(2, 1), -1);
        check.due("messages()", x.messages(), 0);
        x.corrupt(3);
        check.due("forge", x.forge(PRE_PREPARE, 0, 1, -1), 0);
        check.due("forgeCheckpoint", x.forgeCheckpoint(2, 1), 1);
    }

    private void forgesKinds() {
        int[] wrong = {MIN, -1, 0, 7, 8, MAX};
        for (int kind = 1; kind <= 6; kind++) {
            begin("7: kind " + kind);
            x.corrupt(3);
            for (int w : wrong) {
                check.due("forge of kind " + w, x.forge(w, 0, 1, -1), -1);
                check.due("messages()", x.messages(), 0);
            }
            check.due("forge of kind " + kind, x.forge(kind, MIN, MAX, MIN), 0);
            message(0, kind, 3, MIN, MAX, MIN);
            check.due("forge of kind " + kind, x.forge(kind, MAX, MIN, MAX), 1);
            message(1, kind, 3, MAX, MIN, MAX);
            check.due("forge of kind " + kind, x.forge(kind, 0, 0, 0), 2);
            message(2, kind, 3, 0, 0, 0);
        }
    }

    private void forgesUntilFull() {
        for (int kind = 1; kind <= 6; kind++) {
            begin("7: the board is full, kind " + kind);
            x.corrupt(3);
            fill(149);
            check.due("forge at 149", x.forge(kind, 1, 2, 3), 149);
            check.due("forge at 150", x.forge(kind, 1, 2, 3), -1);
            check.due("messages()", x.messages(), 150);
        }
    }

    private void forgesCheckpoints() {
        begin("8: any n and state");
        x.corrupt(0);
        int[] numbers = {MIN, -1, 0, 1, 2, MAX};
        long[] states = {Long.MIN_VALUE, -1, 0, 1L << 40, Long.MAX_VALUE};
        int m = 0;
        for (int n : numbers) {
            for (long state : states) {
                check.due("forgeCheckpoint", x.forgeCheckpoint(n, state), m);
                message(m, CHECKPOINT, 0, n, state, 0);
                m++;
            }
        }
        check.due("messages()", x.messages(), m);
    }

    private void forgesCheckpointsUntilFull() {
        begin("8: the board is full");
        x.corrupt(3);
        fill(149);
        check.due("forgeCheckpoint at 149", x.forgeCheckpoint(2, 5), 149);
        check.due("forgeCheckpoint at 150", x.forgeCheckpoint(2, 5), -1);
        check.due("messages()", x.messages(), 150);
    }

    // Replica 3 has noted all but the PRE-PREPARE, which then brings about three messages at once.
    private void fillsBeyondTheEdge() {
        begin("BOARD: full with more than 150");
        x.submit(0, 1, 2, 7);
        take(0, 0);
        take(1, 1);
        take(2, 1);
        take(1, 3);
        take(2, 2);
        take(0, 2, 3);
        take(3, 2, 4, 5, 6);
        take(1, 5);
        x.corrupt(0);
        fill(149);
        check.due("tick(1) at 149", x.tick(1), true);
        take(3, 1);
        message(149, PREPARE, 3, 0, 1, 0);
        message(150, COMMIT, 3, 0, 1, 0);
        message(151, REPLY, 3, 0, 1, 0);
        check.due("messages()", x.messages(), 152);
        check.due("look(152, 0)", x.look(152, 0), -1);
        check.due("submit", x.submit(1, 1, 2, 7), -1);
        check.due("tick(1)", x.tick(1), false);
        check.due("forge", x.forge(PRE_PREPARE, 0, 1, -1), -1);
        check.due("forgeCheckpoint", x.forgeCheckpoint(2, 1), -1);
        refuse(1, 6, 150);
        refuse(4, 151);
        check.due("pump(4, 8)", x.pump(4, 8), 0);
        check.due("mark(4)", x.mark(4), 0);
    }

    // Replicas 1, 2, 3 have executed four requests; the primary lacks one PREPARE for the first of them, and then does
    // all of it at once, settles, and orders the next two.
    private void fillsFarBeyondTheEdge() {
        begin("BOARD: nine messages by one delivery, on a board that was not full");
        for (int i = 0; i < 2; i++) {
            x.submit(0, 2, 0, 1);
            x.submit(1, 2, 1, 1);
            take(0, last() - 1, last());
            spread(true, 1, 2, 3, 4, 5);
        }
        check.due("executed(1)", x.executed(1), 4);
        check.due("outstanding(0)", x.outstanding(0), 0);
        check.due("outstanding(1)", x.outstanding(1), 0);
        for (int n = 1; n <= 4; n++) {
            take(0, find(PREPARE, 1, 0, n), find(COMMIT, 1, 0, n), find(COMMIT, 2, 0, n));
        }
        for (int n = 2; n <= 4; n++) {
            take(0, find(PREPARE, 2, 0, n));
        }
        take(0, checkpoint(1, 4), checkpoint(2, 4));
        int next = x.submit(0, 2, 0, 1);
        take(0, next, x.submit(1, 2, 1, 1));
        check.due("executed(0)", x.executed(0), 0);
        x.corrupt(3);
        fill(149);
        take(0, find(PREPARE, 2, 0, 1));
        message(149, COMMIT, 0, 0, 1, x.look(find(PREPARE, 2, 0, 1), 4));
        message(150, REPLY, 0, 0, 1, 1);
        message(151, REPLY, 0, 1, 1, 1);
        message(152, CHECKPOINT, 0, 2, 0x1011010011L, 0);
        check.due("messages()", x.messages(), 158);
        message(156, PRE_PREPARE, 0, 0, 5, next);
        message(157, PRE_PREPARE, 0, 0, 6, next + 1);
        check.due("executed(0)", x.executed(0), 4);
        check.due("stable(0)", x.stable(0), 4);
        check.due("state(0)", x.state(0), x.state(1));
        refuse(1, 156);
    }

    private void countsMessages() {
        begin("9: how many lie on the board");
        check.due("messages()", x.messages(), 0);
        x.submit(0, 1, 2, 7);
        check.due("messages()", x.messages(), 1);
        take(1, 0);
        check.due("messages(), none was sent", x.messages(), 1);
        take(0, 0);
        check.due("messages(), one was sent", x.messages(), 2);
    }

    private void looksAtMessages() {
        begin("10: no such message");
        int[] none = {MIN, -1, 2, MAX};
        x.submit(1, 2, 3, 15);
        x.submit(0, 1, 2, 7);
        for (int k = 0; k <= 5; k++) {
            for (int m : none) {
                check.due("look(" + m + ", " + k + ")", x.look(m, k), -1);
            }
        }
        message(0, REQUEST, 5, 1, 2, 63);
        message(1, REQUEST, 4, 1, 1, 39);
    }

    private void looksAtFields() {
        begin("10: no such k");
        x.submit(0, 1, 2, 7);
        x.corrupt(3);
        x.forge(VIEW_CHANGE, 1, 0, 0);
        x.forge(VIEW_CHANGE, 0, 0, 0);
        int[] none = {MIN, -1, 6, 7, MAX};
        for (int m = 0; m < 3; m++) {
            for (int k : none) {
                check.due("look(" + m + ", " + k + ")", x.look(m, k), -1);
            }
        }
        check.due("look(0, 0)", x.look(0, 0), REQUEST);
        check.due("look(0, 5) of a REQUEST", x.look(0, 5), 0);
        check.due("look(1, 5) of a valid one", x.look(1, 5), 1);
        check.due("look(2, 5) of one that is not", x.look(2, 5), 0);
        for (int kind = 1; kind <= 4; kind++) {
            valid(x.forge(kind, 1, 0, 0), false);
        }
        valid(x.forgeCheckpoint(1, 0), false);

        begin("10: 1 if it is a valid NEW-VIEW, no other kind with such fields");
        x.submit(0, 1, 2, 7);
        for (int r = 1; r < 4; r++) {
            take(r, 0);
            expire(r);
        }
        x.corrupt(0);
        int votes = 1 + 256 * 2 + 65536 * 3;
        for (int kind = 1; kind <= 6; kind++) {
            valid(x.forge(kind, 1, votes, 0), kind == NEW_VIEW);
        }
        valid(x.forgeCheckpoint(1, votes), false);
    }

    private void marksParties() {
        begin("11: no such party");
        x.submit(0, 1, 2, 7);
        for (int party = 0; party < 6; party++) {
            check.due("mark(" + party + ")", x.mark(party), 0);
            x.pump(party, 1);
            check.due("mark(" + party + ")", x.mark(party), 1);
        }
        for (int party : NO_PARTY) {
            check.due("mark(" + party + ")", x.mark(party), -1);
        }
    }

    private void asksReplicas() {
        begin("12 to 19: no such replica");
        submitTwo(true);
        int request = x.submit(0, 1, 0, 9);
        for (int r = 0; r < 4; r++) {
            take(r, request);
            check.due("tick(" + r + ")", x.tick(r), true);
        }
        for (int r = 0; r < 4; r++) {
            check.due("view(" + r + ")", x.view(r), 0);
            check.due("executed(" + r + ")", x.executed(r), r < 3 ? 2 : 0);
            check.due("stable(" + r + ")", x.stable(r), r < 3 ? 2 : 0);
            check.due("state(" + r + ")", x.state(r), r < 3 ? AFTER_TWO : 0);
            check.due("slot(" + r + ", 3)", x.slot(r, 3), r == 0 ? ACCEPTED : 0);
            check.due("ordered(" + r + ", 3)", x.ordered(r, 3), r == 0 ? request : -2);
            check.due("timer(" + r + ")", x.timer(r), 3);
            check.due("waiting(" + r + ")", x.waiting(r), 1);
        }
        for (int r : NO_REPLICA) {
            check.due("view(" + r + ")", x.view(r), -1);
            check.due("executed(" + r + ")", x.executed(r), -1);
            check.due("stable(" + r + ")", x.stable(r), -1);
            check.due("state(" + r + ")", x.state(r), -1);
            for (int n = 0; n <= 7; n++) {
                check.due("slot(" + r + ", " + n + ")", x.slot(r, n), -1);
                check.due("ordered(" + r + ", " + n + ")", x.ordered(r, n), -2);
            }
            check.due("timer(" + r + ")", x.timer(r), -1);
            check.due("waiting(" + r + ")", x.waiting(r), -1);
        }
    }

    private void viewsWhileChanging() {
        begin("12: 16 more while it is changing");
        x.submit(0, 1, 2, 7);
        for (int r = 0; r < 4; r++) {
            check.due("view(" + r + ")", x.view(r), 0);
            take(r, 0);
            expire(r);
            check.due("view(" + r + ")", x.view(r), 17);
        }
        take(1, find(VIEW_CHANGE, 0, 1, 0), find(VIEW_CHANGE, 3, 1, 0));
        check.due("view(1) that has entered", x.view(1), 1);
        expire(0);
        check.due("view(0)", x.view(0), 18);
    }

    private void asksWithinTheWindow() {
        begin("16 and 17: outside of the window");
        x.corrupt(0);
        int[] outside = {MIN, MIN + 1, -1, 0, 5, 6, MAX - 1, MAX};
        for (int n = 1; n <= 4; n++) {
            take(1, x.forge(PRE_PREPARE, 0, n, -1));
            check.due("slot(1, " + n + ")", x.slot(1, n), ACCEPTED + PREPARED);
            check.due("ordered(1, " + n + ")", x.ordered(1, n), -1);
        }
        for (int n : outside) {
            check.due("slot(1, " + n + ")", x.slot(1, n), -1);
            check.due("ordered(1, " + n + ")", x.ordered(1, n), -2);
        }
        for (int n = 1; n <= 4; n++) {
            check.due("slot(2, " + n + ")", x.slot(2, n), 0);
            check.due("ordered(2, " + n + ")", x.ordered(2, n), -2);
        }
    }

    private void asksWithinAWindowThatMoved() {
        begin("16 and 17: outside of a window that moved");
        submitTwo(true);
        int[] outside = {MIN, -1, 0, 1, 2, 7, 8, MAX};
        for (int n : outside) {
            check.due("slot(0, " + n + ")", x.slot(0, n), -1);
            check.due("ordered(0, " + n + ")", x.ordered(0, n), -2);
        }
        for (int n = 3; n <= 6; n++) {
            check.due("slot(0, " + n + ")", x.slot(0, n), 0);
            check.due("ordered(0, " + n + ")", x.ordered(0, n), -2);
        }
        check.due("slot(3, 1) of one that settled nowhere", x.slot(3, 1), 0);
        check.due("slot(3, 5) of one that settled nowhere", x.slot(3, 5), -1);
    }

    private void sumsUpASlot() {
        begin("16: 0 without ACCEPTED, and what is noted for ACCEPTED alone");
        x.submit(0, 1, 2, 7);
        x.corrupt(3);
        take(2, x.forge(PREPARE, 0, 1, 0));
        take(2, x.forge(COMMIT, 0, 1, 0));
        check.due("slot(2, 1) without ACCEPTED", x.slot(2, 1), 0);
        for (int request = -2; request <= 0; request++) {
            take(1, x.forge(PREPARE, 0, 4 + request, request), x.forge(COMMIT, 0, 4 + request, request));
            check.due("slot without ACCEPTED", x.slot(1, 4 + request), 0);
        }
        take(0, 0);
        int prePrepare = last();
        check.due("slot(0, 1) of the primary", x.slot(0, 1), ACCEPTED);
        take(1, prePrepare);
        check.due("slot(1, 1)", x.slot(1, 1), ACCEPTED + PREPARED);
        take(2, prePrepare);
        check.due("slot(2, 1)", x.slot(2, 1), ACCEPTED + SENT + 2 * PREPARED + 2 * COMMITTED + CERT);
        take(1, x.forge(PREPARE, 0, 1, -1));
        take(1, x.forge(COMMIT, 0, 1, -1));
        check.due("slot(1, 1), for another request", x.slot(1, 1), ACCEPTED + PREPARED);
        take(2, find(PREPARE, 1, 0, 1));
        check.due("slot(2, 1), three PREPAREs", x.slot(2, 1),
                ACCEPTED + SENT + 3 * PREPARED + 2 * COMMITTED + CERT);
        take(1, find(PREPARE, 2, 0, 1));
        check.due("slot(1, 1)", x.slot(1, 1), ACCEPTED + SENT + 2 * PREPARED + COMMITTED + CERT);
        take(2, find(COMMIT, 1, 0, 1));
        check.due("slot(2, 1)", x.slot(2, 1),
                ACCEPTED + SENT + DECIDED + 3 * PREPARED + 3 * COMMITTED + CERT);
        take(0, find(PREPARE, 1, 0, 1), find(PREPARE, 2, 0, 1));
        take(2, find(COMMIT, 0, 0, 1));
        check.due("slot(2, 1), four COMMITs", x.slot(2, 1),
                ACCEPTED + SENT + DECIDED + 3 * PREPARED + 4 * COMMITTED + CERT);
        check.due("slot(2, 2)", x.slot(2, 2), 0);
    }

    private void ordersDecidedOnes() {
        begin("16 and 17: DECIDED without ACCEPTED");
        x.submit(0, 1, 2, 7);
        x.submit(1, 1, 2, 7);
        take(1, 1);
        take(0, 0);
        take(1, 2);
        take(2, 2);
        take(1, find(PREPARE, 2, 0, 1));
        take(2, find(PREPARE, 1, 0, 1));
        take(0, find(PREPARE, 1, 0, 1), find(PREPARE, 2, 0, 1));
        take(1, find(COMMIT, 0, 0, 1));
        check.due("ordered(1, 1), ACCEPTED", x.ordered(1, 1), 0);
        take(1, find(COMMIT, 2, 0, 1));
        check.due("executed(1)", x.executed(1), 1);
        check.due("ordered(1, 1), both", x.ordered(1, 1), 0);
        expire(1);
        check.due("ordered(1, 1), DECIDED", x.ordered(1, 1), 0);
        check.due("slot(1, 1)", x.slot(1, 1), DECIDED + CERT);
        check.due("ordered(1, 2), none", x.ordered(1, 2), -2);
        x.corrupt(3);
        take(1, x.forge(VIEW_CHANGE, 1, 0, 0));
        check.due("view(1)", x.view(1), 17);
    }

    private void asksClients() {
        begin("20 and 21: no such client");
        for (int client = 0; client < 2; client++) {
            check.due("outstanding(" + client + ")", x.outstanding(client), 0);
            check.due("answer(" + client + ")", x.answer(client), -1);
            x.submit(client, 2, client, 3 + client);
            check.due("outstanding(" + client + ")", x.outstanding(client), 1);
            check.due("answer(" + client + ")", x.answer(client), -1);
        }
        spread(true);
        for (int client = 0; client < 2; client++) {
            check.due("outstanding(" + client + ")", x.outstanding(client), 0);
            check.due("answer(" + client + ")", x.answer(client), 3 + client);
            x.submit(client, 2, client, 3 + client);
            check.due("outstanding(" + client + ")", x.outstanding(client), 2);
            check.due("the latest answer(" + client + ")", x.answer(client), 3 + client);
        }
        for (int client : NO_CLIENT) {
            check.due("outstanding(" + client + ")", x.outstanding(client), -1);
            check.due("answer(" + client + ")", x.answer(client), -1);
        }
        spread(true);
        check.due("answer(1)", x.answer(1), 8);
    }

    // Two objects are given the same calls, and one of them is looked at all the while, also with wrong arguments.
    private void changesNothingByLooking() {
        begin("9 to 21: looking changes nothing");
        ThreePhaseGroup seen = new ThreePhaseGroup();
        ThreePhaseGroup unseen = new ThreePhaseGroup();
        for (int round = 0; round < 2; round++) {
            for (int client = 0; client < 2; client++) {
                check.due("submit", seen.submit(client, 2, round, 5), unseen.submit(client, 2, round, 5));
            }
            for (int i = 0; i < 12; i++) {
                lookAtAll(seen, i - 2, i % 8);
                check.due("pump", seen.pump(i % 6, 8), unseen.pump(i % 6, 8));
            }
        }
        check.due("tick", seen.tick(3), unseen.tick(3));
        for (int r = 0; r < 4; r++) {
            check.due("the same is seen", lookAtAll(seen, r, 2 + r).equals(lookAtAll(unseen, r, 2 + r)), true);
        }
    }

    private static List<Long> lookAtAll(ThreePhaseGroup g, int i, int n) {
        long[] all = {g.messages(), g.look(i, n), g.mark(i), g.view(i), g.executed(i), g.stable(i), g.state(i),
            g.slot(i, n), g.ordered(i, n), g.timer(i), g.waiting(i), g.outstanding(i), g.answer(i)};
        List<Long> answers = new ArrayList<>();
        for (long answer : all) {
            answers.add(answer);
        }
        return answers;
    }
}
