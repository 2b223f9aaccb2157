/**
 * The boundaries of the service, of rules 1 to 8, of the timer and the span, and of how a replica settles, begins a
 * change and enters a view: what is just enough, and what is not.
 */
public final class RuleEdgesTest extends Scene {
    public static void main(String[] args) {
        RuleEdgesTest test = new RuleEdgesTest();
        test.addsModuloSixteen();
        test.servesEachKey();
        test.packsTheState();
        test.preparesOnce();
        test.preparesTheLeastFirst();
        test.commitsAtTwoPrepares();
        test.commitsAgainInALaterView();
        test.decidesAtThreeCommits();
        test.decidesAfterItsOwnCommit();
        test.executesInOrder();
        test.executesAfterSettling();
        test.executesARequestOnce();
        test.executesTheEmptyRequest();
        test.checkpointsAtEvenNumbers();
        test.settlesAtThreeCheckpoints();
        test.settlesByWhatIsNoted();
        test.joinsAtTwoOthers();
        test.joinsAnyTwoOthers();
        test.joinsTwoReplicasNotTwoMessages();
        test.opensAtThreeVotes();
        test.opensAsPrimaryAlone();
        test.ordersToTheEndOfTheWindow();
        test.ordersTheLeastFirst();
        test.ordersAsPrimaryAlone();
        test.ordersWhatWaits();
        test.ordersBehindTheGreatest();
        test.startsTheTimer();
        test.stopsTheTimer();
        test.renewsTheTimer();
        test.keepsTheTimerWhileChanging();
        test.doublesTheSpanToThirtyTwo();
        test.shortensTheSpan();
        test.reachesTheLastView();
        test.settlesWithLessExecuted();
        test.settlesWithAsMuchExecuted();
        test.settlesWithMoreExecuted();
        test.settlesFarAhead();
        test.claimsTheWholeWindow();
        test.claimsWhatIsNotSettled();
        test.claimsTheViewOfTheCert();
        test.beginsWithoutAccepted();
        test.entersWithoutAccepted();
        test.entersBehindTheStart();
        test.entersAtTheStart();
        test.entersAheadOfTheStart();
        test.entersWithMoreExecutedThanTheStart();
        test.entersAndExecutes();
        test.entersAndKnowsTheOrders();
        test.end();
    }

    // A client's one request, executed by replicas 0, 1 and 2 and answered.
    private void serve(int client, int op, int key, int value, int want) {
        x.submit(client, op, key, value);
        spread(true);
        check.due("answer of op " + op + " with " + value, x.answer(client), want);
    }

    private int valueOf(int key) {
        return (int) (x.state(0) >> (4 * key)) & 15;
    }

    private void addsModuloSixteen() {
        int[][] sums = {{0, 0}, {0, 15}, {15, 0}, {15, 1}, {1, 15}, {8, 7}, {8, 8}, {15, 15}};
        for (int[] sum : sums) {
            begin("SERVICE: " + sum[0] + " and " + sum[1] + " modulo 16");
            int due = (sum[0] + sum[1]) % 16;
            serve(0, 1, 1, sum[0], 0);
            serve(1, 2, 1, sum[1], due);
            check.due("state(0), the other keys are untouched", x.state(0) & 0xffff, due << 4);
            serve(0, 0, 1, 5, due);
            check.due("state(0), a key is read", x.state(0) & 0xffff, due << 4);
        }
    }

    private void servesEachKey() {
        for (int key = 0; key < 4; key++) {
            begin("SERVICE: key " + key);
            serve(0, 0, key, 15, 0);
            check.due("value", valueOf(key), 0);
            serve(0, 1, key, 15, 0);
            check.due("state(0)", x.state(0) & 0xffff, 15 << (4 * key));
            serve(1, 1, key, 0, 15);
            check.due("state(0)", x.state(0) & 0xffff, 0);
            serve(1, 2, key, 9, 9);
            check.due("state(0)", x.state(0) & 0xffff, 9 << (4 * key));
        }
    }

    private void packsTheState() {
        begin("STATE: the greatest values beside each other");
        for (int key = 0; key < 4; key++) {
            serve(key % 2, 1, key, 15, 0);
        }
        serve(0, 0, 0, 0, 15);
        check.due("state(0)", x.state(0), 0xffff + (3L << 16) + (15L << 24) + (2L << 28));
        serve(1, 0, 3, 0, 15);
        check.due("state(0)", x.state(0), 0xffff + (3L << 16) + (15L << 24) + (3L << 28) + (15L << 36));
        serve(0, 2, 3, 1, 0);
        check.due("state(0)", x.state(0), 0x0fff + (4L << 16) + (3L << 28) + (15L << 36));
    }

    private int count(int kind, int sender, int a, long b) {
        int count = 0;
        for (int m = 0; m < x.messages(); m++) {
            boolean fits = x.look(m, 0) == kind && x.look(m, 1) == sender && x.look(m, 2) == a && x.look(m, 3) == b;
            count += fits ? 1 : 0;
        }
        return count;
    }

    private void preparesOnce() {
        begin("rule 1: one PREPARE, and none of the primary");
        x.submit(0, 1, 2, 7);
        take(0, 0);
        check.due("messages(): the primary's PRE-PREPARE alone", x.messages(), 2);
        take(1, 1);
        check.due("messages()", x.messages(), 3);
        message(2, PREPARE, 1, 0, 1, 0);
        x.submit(1, 1, 2, 7);
        take(1, 3);
        check.due("tick(1)", x.tick(1), true);
        take(0, 2);
        check.due("PREPAREs of 1", count(PREPARE, 1, 0, 1), 1);
        check.due("PREPAREs of 0", count(PREPARE, 0, 0, 1), 0);
    }

    // Number 2 alone is prepared in view 0, by replicas 1 and 2; replica 1 opens view 1 with the empty request at 1.
    private int openWithAGap() {
        x.submit(0, 1, 0, 5);
        x.submit(1, 1, 1, 6);
        take(0, 0, 1);
        int second = find(PRE_PREPARE, 0, 0, 2);
        take(1, second);
        take(2, second);
        take(1, find(PREPARE, 2, 0, 2));
        take(3, 0);
        for (int r = 1; r < 4; r++) {
            expire(r);
        }
        take(1, find(VIEW_CHANGE, 2, 1, 0), find(VIEW_CHANGE, 3, 1, 0));
        int newView = newViewOf(1);
        message(newView, NEW_VIEW, 1, 1, x.look(newView, 3), 1 + 256 * 3);
        return newView;
    }

    private void preparesTheLeastFirst() {
        begin("rule 1: the least n first, and none of the primary");
        int newView = openWithAGap();
        check.due("messages(): none was sent by the primary that entered", x.messages(), newView + 1);
        take(2, newView);
        message(newView + 1, PREPARE, 2, 1, 1, -1);
        message(newView + 2, PREPARE, 2, 1, 2, 1);
        check.due("messages()", x.messages(), newView + 3);
    }

    private void commitsAtTwoPrepares() {
        begin("rule 2: at least two replicas' PREPAREs");
        x.submit(0, 1, 2, 7);
        x.corrupt(3);
        take(0, 0);
        take(1, 1);
        take(2, 1);
        int three = x.forge(PREPARE, 0, 1, 0);
        int sent = x.messages();
        check.due("slot(1, 1), its own alone", x.slot(1, 1), ACCEPTED + PREPARED);
        take(0, three);
        check.due("slot(0, 1), one of another", x.slot(0, 1), ACCEPTED + PREPARED);
        check.due("messages()", x.messages(), sent);
        take(0, find(PREPARE, 1, 0, 1));
        check.due("slot(0, 1), two", x.slot(0, 1), ACCEPTED + SENT + 2 * PREPARED + COMMITTED + CERT);
        message(sent, COMMIT, 0, 0, 1, 0);
        take(0, find(PREPARE, 2, 0, 1));
        check.due("slot(0, 1), three", x.slot(0, 1), ACCEPTED + SENT + 3 * PREPARED + COMMITTED + CERT);
        check.due("messages(), no second COMMIT", x.messages(), sent + 1);

        begin("rule 2: PREPAREs for ACCEPTED(n)");
        x.submit(0, 1, 2, 7);
        x.corrupt(3);
        take(0, 0);
        take(1, 1);
        take(1, x.forge(PREPARE, 0, 1, -1));
        check.due("slot(1, 1)", x.slot(1, 1), ACCEPTED + PREPARED);
        take(2, x.forge(PREPARE, 0, 2, 0));
        take(2, 1);
        check.due("slot(2, 1), one for another n", x.slot(2, 1), ACCEPTED + PREPARED);
        take(1, find(PREPARE, 2, 0, 1));
        check.due("slot(1, 1)", x.slot(1, 1), ACCEPTED + SENT + 2 * PREPARED + COMMITTED + CERT);
    }

    private void commitsAgainInALaterView() {
        begin("rules 1 and 2: also for numbers that were executed in an earlier view");
        submitTwo(false);
        int request = x.submit(0, 1, 0, 9);
        for (int r = 1; r < 4; r++) {
            take(r, request);
            expire(r);
        }
        take(1, find(VIEW_CHANGE, 2, 1, 0), find(VIEW_CHANGE, 3, 1, 0));
        take(0, newViewOf(1));
        enterViewOne();
        check.due("executed(0)", x.executed(0), 2);
        check.due("slot(0, 2)", x.slot(0, 2), ACCEPTED + DECIDED + PREPARED + CERT);
        take(0, find(PREPARE, 2, 1, 2));
        check.due("slot(0, 2)", x.slot(0, 2), ACCEPTED + SENT + DECIDED + 2 * PREPARED + COMMITTED + 2 * CERT);
        message(last(), COMMIT, 0, 1, 2, 1);
        take(3, find(PREPARE, 2, 1, 1), find(PREPARE, 2, 1, 2));
        take(2, find(PREPARE, 3, 1, 1), find(PREPARE, 3, 1, 2), find(COMMIT, 3, 1, 1), find(COMMIT, 0, 1, 2));
        check.due("executed(2), no number is executed twice", x.executed(2), 2);
        check.due("REPLYs of 2", count(REPLY, 2, 0, 1), 1);
    }

    // Request 0 has COMMITs of replicas 0, 1 and 2, none of which has taken one.
    private void commitFirst() {
        x.submit(0, 1, 2, 7);
        take(0, 0);
        take(1, 1);
        take(2, 1);
        take(1, find(PREPARE, 2, 0, 1));
        take(2, find(PREPARE, 1, 0, 1));
        take(0, find(PREPARE, 1, 0, 1), find(PREPARE, 2, 0, 1));
    }

    private void decidesAtThreeCommits() {
        begin("rule 3: at least three replicas' COMMITs");
        commitFirst();
        x.corrupt(3);
        take(1, find(COMMIT, 0, 0, 1));
        check.due("slot(1, 1), two", x.slot(1, 1), ACCEPTED + SENT + 2 * PREPARED + 2 * COMMITTED + CERT);
        check.due("executed(1)", x.executed(1), 0);
        take(1, x.forge(COMMIT, 0, 1, -1));
        check.due("slot(1, 1), one for another request", x.slot(1, 1),
                ACCEPTED + SENT + 2 * PREPARED + 2 * COMMITTED + CERT);
        take(1, find(COMMIT, 2, 0, 1));
        check.due("slot(1, 1), three", x.slot(1, 1),
                ACCEPTED + SENT + DECIDED + 2 * PREPARED + 3 * COMMITTED + CERT);
        check.due("executed(1)", x.executed(1), 1);
        take(2, find(COMMIT, 0, 0, 1), x.forge(COMMIT, 0, 1, 0));
        check.due("executed(2), a faulty one's among them", x.executed(2), 1);
    }

    private void decidesAfterItsOwnCommit() {
        begin("rule 3: r has sent a COMMIT");
        commitFirst();
        take(3, find(COMMIT, 0, 0, 1), find(COMMIT, 1, 0, 1), find(COMMIT, 2, 0, 1), 1);
        check.due("slot(3, 1)", x.slot(3, 1), ACCEPTED + PREPARED + 3 * COMMITTED);
        check.due("executed(3)", x.executed(3), 0);
        take(3, find(PREPARE, 2, 0, 1));
        check.due("slot(3, 1)", x.slot(3, 1), ACCEPTED + SENT + DECIDED + 2 * PREPARED + 4 * COMMITTED + CERT);
        check.due("executed(3)", x.executed(3), 1);
    }

    // The faulty primary orders the requests at these numbers, and replicas 1, 2, 3 agree on each.
    private void agree(int n, int request) {
        int prePrepare = x.forge(PRE_PREPARE, 0, n, request);
        for (int r = 1; r < 4; r++) {
            take(r, prePrepare);
        }
        phases(0, n);
    }

    // Replicas 1, 2, 3 take each other's PREPAREs and COMMITs; the view's primary has sent no PREPARE.
    private void phases(int view, int n) {
        for (int kind = PREPARE; kind <= COMMIT; kind++) {
            for (int r = 1; r < 4; r++) {
                for (int from = 1; from < 4; from++) {
                    if (from != r && (kind == COMMIT || from != view)) {
                        take(r, find(kind, from, view, n));
                    }
                }
            }
        }
    }

    private void executesInOrder() {
        begin("rule 4: DECIDED(e + 1)");
        x.submit(0, 1, 2, 7);
        x.submit(1, 2, 2, 7);
        x.corrupt(0);
        agree(2, 1);
        check.due("slot(1, 2)", x.slot(1, 2) & DECIDED, DECIDED);
        check.due("executed(1)", x.executed(1), 0);
        check.due("state(1)", x.state(1), 0);
        agree(4, -1);
        check.due("executed(1)", x.executed(1), 0);
        check.due("REPLYs", find(REPLY, 1, 1, 1), -1);
        agree(1, 0);
        check.due("executed(1)", x.executed(1), 2);
        check.due("state(1)", x.state(1), (14 << 8) + (1L << 16) + (1L << 28) + (14L << 36));
        // One after the other: the first REPLY lies below the second, and the CHECKPOINT above both.
        check.due("order of the REPLYs", find(REPLY, 1, 0, 1) < find(REPLY, 1, 1, 1), true);
        check.due("CHECKPOINT", checkpoint(1, 2), find(REPLY, 1, 1, 1) + 1);
        agree(3, -1);
        check.due("executed(1)", x.executed(1), 4);
    }

    // Replica 3 has decided number 3 alone.
    private void decideTheThird() {
        submitTwo(true);
        int third = x.submit(0, 2, 0, 3);
        spread(true);
        check.due("executed(0)", x.executed(0), 3);
        take(3, find(PRE_PREPARE, 0, 0, 3), find(PREPARE, 1, 0, 3), find(COMMIT, 1, 0, 3), find(COMMIT, 2, 0, 3));
        check.due("ordered(3, 3)", x.ordered(3, 3), third);
        check.due("slot(3, 3)", x.slot(3, 3) & DECIDED, DECIDED);
        check.due("executed(3)", x.executed(3), 0);
    }

    private void executesAfterSettling() {
        begin("rule 4: DECIDED(e + 1) is there when e has grown by settling");
        decideTheThird();
        take(3, checkpoint(0, 2), checkpoint(1, 2), checkpoint(2, 2));
        check.due("stable(3)", x.stable(3), 2);
        check.due("executed(3)", x.executed(3), 3);
        check.due("state(3)", x.state(3), x.state(0));
        message(last(), REPLY, 3, 0, 2, 8);

        begin("rule 4: also while r is changing and without ACCEPTED");
        decideTheThird();
        expire(3);
        check.due("slot(3, 3)", x.slot(3, 3), DECIDED + CERT);
        take(3, checkpoint(0, 2), checkpoint(1, 2), checkpoint(2, 2));
        check.due("view(3)", x.view(3), 17);
        check.due("executed(3)", x.executed(3), 3);
        check.due("state(3)", x.state(3), x.state(0));
        message(last(), REPLY, 3, 0, 2, 8);
        check.due("timer(3), r is changing, and the span is short again", x.timer(3), 4);
    }

    private void executesARequestOnce() {
        begin("rule 4: one done before");
        x.submit(0, 2, 2, 7);
        x.submit(1, 2, 2, 7);
        x.corrupt(0);
        take(1, 1);
        agree(1, 0);
        long once = (7 << 8) + (1L << 16) + (7L << 24);
        check.due("state(1)", x.state(1), once);
        check.due("timer(1)", x.timer(1), 4);
        check.due("tick(1)", x.tick(1), true);
        agree(2, 0);
        check.due("executed(1)", x.executed(1), 2);
        check.due("state(1)", x.state(1), once);
        check.due("REPLYs", count(REPLY, 1, 0, 1), 1);
        check.due("timer(1) runs on", x.timer(1), 3);
        message(checkpoint(1, 2), CHECKPOINT, 1, 2, once, 0);
    }

    private void executesTheEmptyRequest() {
        begin("rule 4: the empty one");
        x.submit(0, 2, 2, 7);
        x.corrupt(0);
        take(1, 0);
        int before = x.messages();
        check.due("tick(1)", x.tick(1), true);
        agree(1, -1);
        check.due("executed(1)", x.executed(1), 1);
        check.due("state(1)", x.state(1), 0);
        check.due("ordered(1, 1)", x.ordered(1, 1), -1);
        check.due("timer(1) runs on", x.timer(1), 3);
        check.due("messages(): PRE-PREPARE, PREPAREs and COMMITs", x.messages(), before + 7);
        agree(2, -1);
        check.due("executed(1)", x.executed(1), 2);
        message(checkpoint(1, 2), CHECKPOINT, 1, 2, 0, 0);
    }

    private void checkpointsAtEvenNumbers() {
        begin("rule 4: if e is even");
        x.submit(0, 1, 2, 7);
        x.corrupt(0);
        for (int n = 1; n <= 4; n++) {
            agree(n, n == 3 ? 0 : -1);
            for (int r = 1; r < 4; r++) {
                check.due("executed(" + r + ")", x.executed(r), n);
                check.due("CHECKPOINT of " + r + " for " + n, checkpoint(r, n) >= 0, n % 2 == 0);
            }
        }
        message(checkpoint(2, 2), CHECKPOINT, 2, 2, 0, 0);
        message(checkpoint(2, 4), CHECKPOINT, 2, 4, (7 << 8) + (1L << 16), 0);
        check.due("stable(1)", x.stable(1), 0);
    }

    private void settlesAtThreeCheckpoints() {
        begin("rule 5: at least three replicas'");
        submitTwo(false);
        take(0, checkpoint(1, 2));
        check.due("stable(0), two with its own", x.stable(0), 0);
        take(3, checkpoint(1, 2), checkpoint(0, 2));
        check.due("stable(3), two of others", x.stable(3), 0);
        take(0, checkpoint(2, 2));
        check.due("stable(0), three with its own", x.stable(0), 2);
        take(3, checkpoint(2, 2));
        check.due("stable(3), three of others", x.stable(3), 2);

        begin("rule 5: for n");
        submitTwo(false);
        submitTwo(false);
        take(3, checkpoint(0, 2), checkpoint(1, 2), checkpoint(0, 4), checkpoint(2, 4));
        check.due("stable(3)", x.stable(3), 0);
        take(3, checkpoint(2, 2));
        check.due("stable(3)", x.stable(3), 2);
        check.due("state(3)", x.state(3), AFTER_TWO);
        take(3, checkpoint(1, 4));
        check.due("stable(3)", x.stable(3), 4);

        begin("rule 5: with the same state");
        submitTwo(false);
        x.corrupt(3);
        take(0, x.forgeCheckpoint(2, AFTER_TWO ^ (1L << 40)), checkpoint(1, 2));
        check.due("stable(0)", x.stable(0), 0);
        take(1, x.forgeCheckpoint(2, AFTER_TWO), checkpoint(0, 2));
        check.due("stable(1)", x.stable(1), 2);
    }

    private void settlesByWhatIsNoted() {
        begin("rule 5: noted, not only on the board; and the first message of all may be one");
        x.corrupt(0);
        check.due("forgeCheckpoint", x.forgeCheckpoint(2, 0), 0);
        agree(1, -1);
        agree(2, -1);
        take(3, checkpoint(1, 2));
        check.due("stable(3), two", x.stable(3), 0);
        take(2, checkpoint(1, 2));
        check.due("stable(2), two", x.stable(2), 0);
        take(2, 0);
        check.due("stable(2), three", x.stable(2), 2);

        begin("rule 5: three for one n, though the state is the same for another");
        x.corrupt(0);
        for (int n = 1; n <= 4; n++) {
            agree(n, -1);
        }
        take(1, x.forgeCheckpoint(2, 0), checkpoint(2, 4));
        check.due("stable(1), two for each", x.stable(1), 0);
        take(1, checkpoint(3, 2));
        check.due("stable(1)", x.stable(1), 2);
        take(1, checkpoint(3, 4));
        check.due("stable(1)", x.stable(1), 4);
    }

    private void joinsAtTwoOthers() {
        begin("rule 6: at least two replicas, whose views are greater than VIEW");
        x.submit(0, 1, 2, 7);
        x.corrupt(3);
        take(1, 0);
        take(2, 0);
        int one = expire(1);
        int three = x.forge(VIEW_CHANGE, 3, 0, 0);
        take(0, three);
        check.due("view(0), one is ahead", x.view(0), 0);
        take(0, one);
        check.due("view(0), two are ahead", x.view(0), 17);
        int two = expire(2);
        take(0, two);
        check.due("view(0), one is ahead and two are in VIEW", x.view(0), 17);
        int second = expire(1);
        take(0, second);
        check.due("view(0), the least of views 2 and 3", x.view(0), 18);
        int third = expire(1);
        message(third, VIEW_CHANGE, 1, 3, 0, 0);
        // The primary of view 3 is faulty: replica 0 changes to it, and does no more.
        take(0, third);
        check.due("view(0), two are in view 3", x.view(0), 19);
        check.due("VIEW-CHANGEs of 0", count(VIEW_CHANGE, 0, 3, 0), 1);
    }

    private void joinsAnyTwoOthers() {
        for (int r = 0; r < 4; r++) {
            for (int other = 0; other < 12; other++) {
                int first = other / 4;
                int second = other % 4;
                if (first >= second || first == r || second == r) {
                    continue;
                }
                begin("rule 6: replica " + r + " joins " + first + " and " + second);
                x.submit(0, 1, 2, 7);
                take(first, 0);
                take(second, 0);
                int one = expire(first);
                int two = expire(second);
                take(r, one);
                check.due("view(r)", x.view(r), 0);
                take(r, two);
                // The primary of view 1 has three votes then, and opens it.
                check.due("view(r)", x.view(r), r == 1 ? 1 : 17);
            }
        }
    }

    private void joinsTwoReplicasNotTwoMessages() {
        begin("rule 6: of two replicas, not two of one");
        x.submit(0, 1, 2, 7);
        x.corrupt(3);
        for (int view = 1; view <= 15; view++) {
            take(0, x.forge(VIEW_CHANGE, view, 0, 0));
            check.due("view(0)", x.view(0), 0);
        }
        // With its own VIEW-CHANGE r has one ahead yet.
        take(1, 0);
        take(1, last());
        expire(1);
        check.due("view(1)", x.view(1), 17);
    }

    private void opensAtThreeVotes() {
        begin("rule 7: at least three replicas, its own one among them");
        x.submit(0, 1, 2, 7);
        x.corrupt(0);
        for (int r = 1; r < 4; r++) {
            take(r, 0);
        }
        int one = expire(1);
        check.due("view(1), one vote", x.view(1), 17);
        int three = expire(3);
        take(1, three);
        check.due("view(1), two votes", x.view(1), 17);
        check.due("NEW-VIEW", newViewOf(1), -1);
        int zero = x.forge(VIEW_CHANGE, 1, 0, 0);
        take(1, zero);
        check.due("view(1), three votes", x.view(1), 1);
        message(zero + 1, NEW_VIEW, 1, 1, zero + 256 * one + 65536 * three, 0);
        valid(zero + 1, true);

        begin("rule 7: VIEW-CHANGEs for VIEW");
        x.submit(0, 1, 2, 7);
        x.corrupt(0);
        for (int r = 1; r < 4; r++) {
            take(r, 0);
        }
        expire(1);
        take(1, x.forge(VIEW_CHANGE, 2, 0, 0), expire(3));
        check.due("view(1), two votes and one for view 2", x.view(1), 17);
        take(1, expire(2));
        check.due("view(1), three votes", x.view(1), 1);

        begin("rule 7: VIEW-CHANGEs for VIEW, not for a lower one");
        x.submit(0, 1, 2, 7);
        x.corrupt(0);
        take(2, 0);
        take(3, 0);
        take(2, expire(3));
        expire(2);
        int two = expire(2);
        check.due("view(2)", x.view(2), 18);
        zero = x.forge(VIEW_CHANGE, 2, 0, 0);
        take(2, zero);
        check.due("view(2), two votes and one for view 1", x.view(2), 18);
        int last = expire(3);
        take(2, last);
        check.due("view(2), three votes", x.view(2), 2);
        message(newViewOf(2), NEW_VIEW, 2, 2, zero + 256 * two + 65536 * last, 0);
    }

    private void opensAsPrimaryAlone() {
        begin("rule 7: is the primary of VIEW");
        x.submit(0, 1, 2, 7);
        for (int r = 1; r < 4; r++) {
            take(r, 0);
            expire(r);
        }
        int sent = x.messages();
        take(2, find(VIEW_CHANGE, 1, 1, 0), find(VIEW_CHANGE, 3, 1, 0));
        check.due("view(2)", x.view(2), 17);
        take(3, find(VIEW_CHANGE, 1, 1, 0), find(VIEW_CHANGE, 2, 1, 0));
        check.due("view(3)", x.view(3), 17);
        check.due("messages()", x.messages(), sent);
        take(0, find(VIEW_CHANGE, 2, 1, 0), find(VIEW_CHANGE, 3, 1, 0), find(VIEW_CHANGE, 1, 1, 0));
        check.due("view(0)", x.view(0), 17);
        check.due("NEW-VIEW", newViewOf(1), -1);

        begin("rule 7: r is changing, so it opens the view once");
        x.submit(0, 1, 2, 7);
        x.corrupt(0);
        for (int r = 1; r < 4; r++) {
            take(r, 0);
            expire(r);
        }
        take(1, find(VIEW_CHANGE, 2, 1, 0), find(VIEW_CHANGE, 3, 1, 0));
        sent = x.messages();
        refuse(1, x.forge(VIEW_CHANGE, 1, 0, 0));
        take(1, x.submit(1, 1, 2, 7));
        check.due("one VIEW-CHANGE, one REQUEST, one PRE-PREPARE", x.messages(), sent + 3);
    }

    private void ordersToTheEndOfTheWindow() {
        begin("rule 8: next is in the window");
        submitTwo(false);
        x.submit(0, 1, 0, 5);
        spread(false);
        int fourth = x.submit(1, 1, 1, 6);
        take(0, fourth);
        message(fourth + 1, PRE_PREPARE, 0, 0, 4, fourth);
        spread(false);
        int fifth = x.submit(0, 1, 0, 5);
        take(0, fifth);
        check.due("messages(), 5 is outside", x.messages(), fifth + 1);
        check.due("waiting(0)", x.waiting(0), 1);
        check.due("timer(0)", x.timer(0), 4);
        take(0, checkpoint(1, 2));
        check.due("messages()", x.messages(), fifth + 1);
        take(0, checkpoint(2, 2));
        message(fifth + 1, PRE_PREPARE, 0, 0, 5, fifth);
        check.due("messages()", x.messages(), fifth + 2);
    }

    private void ordersTheLeastFirst() {
        for (int first = 0; first < 2; first++) {
            ordersTheLeastFirst(first);
        }
    }

    private void ordersTheLeastFirst(int first) {
        begin("rule 8: the least such request, known first is " + first);
        x.submit(0, 1, 2, 7);
        x.submit(1, 1, 2, 7);
        take(1, first, 1 - first);
        take(2, 0);
        take(3, 0);
        for (int r = 1; r < 4; r++) {
            expire(r);
        }
        take(1, find(VIEW_CHANGE, 2, 1, 0), find(VIEW_CHANGE, 3, 1, 0));
        int newView = newViewOf(1);
        message(newView + 1, PRE_PREPARE, 1, 1, 1, 0);
        message(newView + 2, PRE_PREPARE, 1, 1, 2, 1);
        check.due("messages()", x.messages(), newView + 3);
    }

    private void ordersAsPrimaryAlone() {
        begin("rule 8: r is the primary of VIEW and is not changing");
        x.submit(0, 1, 2, 7);
        x.submit(1, 1, 2, 7);
        for (int r = 1; r < 4; r++) {
            take(r, 0);
        }
        check.due("messages(), none of them is the primary", x.messages(), 2);
        expire(1);
        take(1, 1);
        check.due("messages(), the primary of view 1 is changing", x.messages(), 3);
        take(0, 0);
        check.due("messages(), the primary of view 0", x.messages(), 4);
        check.due("view(0)", x.view(0), 0);
        expire(0);
        take(0, 1);
        check.due("messages(), the primary of view 0 has left it", x.messages(), 5);
    }

    private void ordersWhatWaits() {
        begin("rule 8: a request waits that is ACCEPTED(n) for no n");
        submitTwo(false);
        int third = x.submit(0, 1, 0, 9);
        for (int r = 1; r < 4; r++) {
            take(r, third);
            expire(r);
        }
        // Replica 1 knows requests 0 and 1 too, but they are done; the orders have them at 1 and 2.
        take(1, find(VIEW_CHANGE, 2, 1, 0), find(VIEW_CHANGE, 3, 1, 0));
        int newView = newViewOf(1);
        check.due("orders", x.look(newView, 4), 2 + 256 * 3);
        message(newView + 1, PRE_PREPARE, 1, 1, 3, third);
        check.due("messages()", x.messages(), newView + 2);
        take(1, x.submit(1, 1, 0, 9));
        message(newView + 3, PRE_PREPARE, 1, 1, 4, newView + 2);
        check.due("messages()", x.messages(), newView + 4);
    }

    private void ordersBehindTheGreatest() {
        begin("rule 8: next is one more than the greatest n with ACCEPTED(n)");
        int newView = openWithAGap();
        check.due("messages()", x.messages(), newView + 1);
        take(1, 0);
        message(newView + 1, PRE_PREPARE, 1, 1, 3, 0);

        begin("rule 8: next is h + 1 if there is none");
        submitTwo(true);
        take(0, x.submit(0, 1, 0, 9));
        message(last(), PRE_PREPARE, 0, 0, 3, last() - 1);
    }

    private void startsTheTimer() {
        begin("TIMER: becomes SPAN if it is 0 and a request waits");
        x.submit(0, 1, 2, 7);
        x.submit(1, 1, 2, 7);
        check.due("timer(2)", x.timer(2), 0);
        take(2, 0);
        check.due("timer(2)", x.timer(2), 4);
        x.tick(2);
        refuse(2, 0);
        check.due("timer(2) runs on", x.timer(2), 3);
        take(2, 1);
        check.due("timer(2) runs on, also after one that was not taken", x.timer(2), 3);
        x.tick(2);
        x.tick(2);
        check.due("timer(2) at its last step", x.timer(2), 1);
        take(0, 0);
        take(2, last());
        check.due("timer(2) runs on at its last step", x.timer(2), 1);

        begin("TIMER: is 0 while no request waits");
        x.corrupt(0);
        take(1, x.forge(PRE_PREPARE, 0, 1, -1), x.forge(COMMIT, 0, 1, -1), x.forgeCheckpoint(2, 0));
        take(1, x.forge(VIEW_CHANGE, 1, 0, 0));
        check.due("timer(1)", x.timer(1), 0);
    }

    private void stopsTheTimer() {
        begin("TIMER: is 0 when the last one that waited is executed");
        commitFirst();
        x.submit(1, 1, 2, 7);
        take(2, last());
        take(1, find(COMMIT, 0, 0, 1));
        check.due("timer(1)", x.timer(1), 4);
        take(1, find(COMMIT, 2, 0, 1));
        check.due("timer(1), none waits", x.timer(1), 0);
        check.due("tick(1)", x.tick(1), false);
        take(2, find(COMMIT, 0, 0, 1), find(COMMIT, 1, 0, 1));
        check.due("timer(2), another waits", x.timer(2), 4);

        begin("TIMER: is 0 when a checkpoint has what waited");
        submitTwo(false);
        take(3, 0, 1);
        x.tick(3);
        take(3, checkpoint(0, 2), checkpoint(1, 2));
        check.due("timer(3)", x.timer(3), 3);
        take(3, checkpoint(2, 2));
        check.due("timer(3), none waits", x.timer(3), 0);

        begin("TIMER: runs on over a checkpoint when another one waits");
        submitTwo(false);
        take(3, x.submit(0, 1, 2, 7));
        x.tick(3);
        take(3, checkpoint(0, 2), checkpoint(1, 2), checkpoint(2, 2));
        check.due("stable(3)", x.stable(3), 2);
        check.due("timer(3)", x.timer(3), 3);
    }

    private void renewsTheTimer() {
        begin("TIMER: becomes SPAN when one that waited was executed");
        commitFirst();
        x.submit(1, 1, 2, 7);
        take(2, last());
        x.tick(2);
        x.tick(2);
        take(2, find(COMMIT, 0, 0, 1));
        check.due("timer(2)", x.timer(2), 2);
        take(2, find(COMMIT, 1, 0, 1));
        check.due("timer(2)", x.timer(2), 4);
        x.tick(2);
        x.corrupt(3);
        take(2, x.forge(COMMIT, 0, 1, 0));
        check.due("timer(2), it was executed before this message", x.timer(2), 3);

        begin("TIMER: becomes SPAN when a change was begun or a view entered");
        x.submit(0, 1, 2, 7);
        for (int r = 1; r < 4; r++) {
            take(r, 0);
            expire(r);
            check.due("timer(" + r + ")", x.timer(r), 8);
            x.tick(r);
        }
        take(1, find(VIEW_CHANGE, 2, 1, 0));
        check.due("timer(1), one more vote", x.timer(1), 7);
        take(1, find(VIEW_CHANGE, 3, 1, 0));
        check.due("timer(1), entered", x.timer(1), 8);
        take(2, newViewOf(1));
        check.due("timer(2), entered", x.timer(2), 8);
        x.tick(2);
        take(2, find(PRE_PREPARE, 1, 1, 1));
        check.due("timer(2) runs on", x.timer(2), 7);
    }

    private void keepsTheTimerWhileChanging() {
        begin("TIMER: runs while r is changing, though no request waits");
        x.submit(0, 1, 2, 7);
        for (int r = 1; r < 4; r++) {
            take(r, 0);
            expire(r);
        }
        take(0, find(VIEW_CHANGE, 2, 1, 0), find(VIEW_CHANGE, 3, 1, 0));
        check.due("waiting(0)", x.waiting(0), 0);
        check.due("view(0)", x.view(0), 17);
        check.due("timer(0)", x.timer(0), 8);
        check.due("tick(0)", x.tick(0), true);
        check.due("timer(0)", x.timer(0), 7);
        take(1, find(VIEW_CHANGE, 2, 1, 0), find(VIEW_CHANGE, 3, 1, 0));
        take(0, newViewOf(1));
        check.due("timer(0), it has entered and none waits", x.timer(0), 0);
    }

    private void doublesTheSpanToThirtyTwo() {
        begin("SPAN: doubles at most to 32");
        x.submit(0, 1, 2, 7);
        take(2, 0);
        int[] spans = {4, 8, 16, 32, 32, 32};
        for (int i = 0; i < spans.length; i++) {
            check.due("timer(2)", x.timer(2), spans[i]);
            for (int left = spans[i] - 1; left >= 1; left--) {
                check.due("tick(2)", x.tick(2), true);
                check.due("timer(2)", x.timer(2), left);
            }
            check.due("view(2)", x.view(2) % 16, i);
            check.due("tick(2)", x.tick(2), true);
            check.due("view(2)", x.view(2), 17 + i);
        }
    }

    private void shortensTheSpan() {
        begin("SPAN: stays when the empty one is executed");
        openWithAGap();
        enterViewOne();
        check.due("tick(3)", x.tick(3), true);
        phases(1, 1);
        check.due("executed(3)", x.executed(3), 1);
        check.due("timer(3) runs on", x.timer(3), 7);
        expire(3);
        check.due("timer(3), the span was 8", x.timer(3), 16);

        begin("SPAN: becomes 4 when one that waits is executed");
        openWithAGap();
        enterViewOne();
        check.due("tick(3)", x.tick(3), true);
        phases(1, 1);
        phases(1, 2);
        check.due("executed(3)", x.executed(3), 2);
        check.due("timer(3) anew", x.timer(3), 4);
        expire(3);
        check.due("timer(3), the span was 4", x.timer(3), 8);
    }

    private void enterViewOne() {
        take(2, newViewOf(1));
        take(3, newViewOf(1));
    }

    // Replica 1 comes to view 15 by its timer alone, replica 2 follows it and the faulty replica 3, the primary.
    private void reachesTheLastView() {
        begin("TIMER: 0 in view 15, not in view 14");
        x.submit(0, 1, 2, 7);
        x.corrupt(3);
        take(1, 0);
        take(2, 0);
        for (int view = 1; view <= 14; view++) {
            expire(1);
        }
        check.due("view(1)", x.view(1), 30);
        check.due("timer(1)", x.timer(1), 32);
        int one = expire(1);
        message(one, VIEW_CHANGE, 1, 15, 0, 0);
        valid(one, true);
        check.due("view(1)", x.view(1), 31);
        check.due("timer(1)", x.timer(1), 0);
        check.due("tick(1)", x.tick(1), false);
        int three = x.forge(VIEW_CHANGE, 15, 0, 0);
        take(2, one, three);
        int two = find(VIEW_CHANGE, 2, 15, 0);
        check.due("view(2)", x.view(2), 31);
        check.due("timer(2)", x.timer(2), 0);
        int newView = x.forge(NEW_VIEW, 15, one + 256 * two + 65536 * three, 0);
        valid(newView, true);
        int prePrepare = x.forge(PRE_PREPARE, 15, 1, 0);
        for (int r = 1; r < 3; r++) {
            take(r, newView);
            check.due("view(" + r + ")", x.view(r), 15);
            check.due("waiting(" + r + ")", x.waiting(r), 1);
            check.due("timer(" + r + ")", x.timer(r), 0);
            take(r, prePrepare);
        }
        take(1, find(PREPARE, 2, 15, 1));
        check.due("slot(1, 1)", x.slot(1, 1), ACCEPTED + SENT + 2 * PREPARED + COMMITTED + 16 * CERT);
        check.due("tick(1)", x.tick(1), false);
    }

    private void settlesWithLessExecuted() {
        begin("SETTLES: e is less than n");
        submitTwo(false);
        take(3, find(PRE_PREPARE, 0, 0, 1), find(PREPARE, 1, 0, 1), find(COMMIT, 0, 0, 1), find(COMMIT, 1, 0, 1));
        check.due("executed(3)", x.executed(3), 1);
        take(3, find(PRE_PREPARE, 0, 0, 2));
        int sent = x.messages();
        take(3, checkpoint(0, 2), checkpoint(1, 2), checkpoint(2, 2));
        check.due("executed(3)", x.executed(3), 2);
        check.due("stable(3)", x.stable(3), 2);
        check.due("state(3)", x.state(3), AFTER_TWO);
        check.due("slot(3, 2) is gone", x.slot(3, 2), -1);
        check.due("messages(): nothing was executed", x.messages(), sent);
    }

    private void settlesWithAsMuchExecuted() {
        begin("SETTLES: e is n");
        submitTwo(false);
        take(0, checkpoint(1, 2), checkpoint(2, 2));
        check.due("executed(0)", x.executed(0), 2);
        check.due("stable(0)", x.stable(0), 2);
        check.due("state(0)", x.state(0), AFTER_TWO);
        for (int n = 3; n <= 6; n++) {
            check.due("slot(0, " + n + ")", x.slot(0, n), 0);
        }
    }

    private void settlesWithMoreExecuted() {
        begin("SETTLES: e is greater than n, and what r has for numbers up to n is gone");
        submitTwo(false);
        submitTwo(false);
        int three = x.slot(0, 3);
        check.due("slot(0, 3)", three, ACCEPTED + SENT + DECIDED + 2 * PREPARED + 3 * COMMITTED + CERT);
        take(0, checkpoint(1, 2), checkpoint(2, 2));
        check.due("executed(0)", x.executed(0), 4);
        check.due("stable(0)", x.stable(0), 2);
        check.due("state(0)", x.state(0), AFTER_FOUR);
        check.due("slot(0, 2)", x.slot(0, 2), -1);
        check.due("slot(0, 3)", x.slot(0, 3), three);
        check.due("slot(0, 4)", x.slot(0, 4), three);
        check.due("slot(0, 5)", x.slot(0, 5), 0);
        check.due("slot(0, 6)", x.slot(0, 6), 0);
        check.due("slot(0, 7)", x.slot(0, 7), -1);
    }

    private void settlesFarAhead() {
        begin("SETTLES: beyond the whole window");
        for (int i = 0; i < 3; i++) {
            submitTwo(true);
        }
        for (int n = 1; n <= 4; n++) {
            take(3, find(PRE_PREPARE, 0, 0, n), find(COMMIT, 0, 0, n));
            check.due("slot(3, " + n + ")", x.slot(3, n), ACCEPTED + PREPARED + COMMITTED);
        }
        refuse(3, find(PRE_PREPARE, 0, 0, 5));
        take(3, checkpoint(0, 6), checkpoint(1, 6), checkpoint(2, 6));
        check.due("stable(3)", x.stable(3), 6);
        check.due("executed(3)", x.executed(3), 6);
        check.due("state(3)", x.state(3), x.state(0));
        for (int n = 7; n <= 10; n++) {
            check.due("slot(3, " + n + ")", x.slot(3, n), 0);
            check.due("ordered(3, " + n + ")", x.ordered(3, n), -2);
        }
        x.corrupt(0);
        take(3, x.forge(COMMIT, 0, 7, -1), x.forge(PRE_PREPARE, 0, 7, -1), x.forge(PRE_PREPARE, 0, 10, -1));
        refuse(3, x.forge(PRE_PREPARE, 0, 6, -1), x.forge(PRE_PREPARE, 0, 11, -1));
    }

    private void claimsTheWholeWindow() {
        begin("BEGINS: the claims for h + 1 and for h + 4");
        submitTwo(false);
        submitTwo(false);
        take(1, x.submit(0, 1, 0, 9));
        int one = expire(1);
        message(one, VIEW_CHANGE, 1, 1, 0, 1 + (1 << 5) + (1 << 10) + (1 << 15));
        valid(one, true);

        begin("BEGINS: no claim without CERT");
        submitTwo(false);
        take(1, x.submit(0, 1, 0, 9));
        message(expire(1), VIEW_CHANGE, 1, 1, 0, 1 + (1 << 5));

        begin("BEGINS: a claim for h + 4 alone");
        x.submit(0, 1, 0, 9);
        x.corrupt(0);
        int prePrepare = x.forge(PRE_PREPARE, 0, 4, 0);
        take(1, prePrepare);
        take(2, prePrepare);
        take(1, find(PREPARE, 2, 0, 4));
        one = expire(1);
        message(one, VIEW_CHANGE, 1, 1, 0, 1 << 15);
        valid(one, true);
    }

    private void claimsWhatIsNotSettled() {
        begin("BEGINS: the claims begin with h + 1, h is 2 or 4");
        submitTwo(false);
        submitTwo(false);
        take(1, checkpoint(0, 2), checkpoint(2, 2));
        take(2, checkpoint(0, 4), checkpoint(1, 4));
        int request = x.submit(0, 1, 0, 9);
        take(1, request);
        take(2, request);
        int one = expire(1);
        message(one, VIEW_CHANGE, 1, 1, 2, 1 + (1 << 5));
        valid(one, true);
        int two = expire(2);
        message(two, VIEW_CHANGE, 2, 1, 4, 0);
        valid(two, true);
    }

    // Replicas 1 and 2 prepare request 0 in view 0, which replica 1 knows, and all enter view 1 with it.
    private void carryOver() {
        x.submit(0, 1, 0, 5);
        take(0, 0);
        take(1, 1);
        take(2, 1);
        take(1, find(PREPARE, 2, 0, 1));
        take(3, 0);
        for (int r = 1; r < 4; r++) {
            expire(r);
        }
        take(1, find(VIEW_CHANGE, 2, 1, 0), find(VIEW_CHANGE, 3, 1, 0));
        enterViewOne();
    }

    private void claimsTheViewOfTheCert() {
        begin("BEGINS: 1 + the view of CERT");
        carryOver();
        message(find(VIEW_CHANGE, 1, 1, 0), VIEW_CHANGE, 1, 1, 0, 1);
        message(find(VIEW_CHANGE, 2, 1, 0), VIEW_CHANGE, 2, 1, 0, 0);
        take(2, find(PREPARE, 3, 1, 1));
        check.due("slot(2, 1)", x.slot(2, 1), ACCEPTED + SENT + 2 * PREPARED + COMMITTED + 2 * CERT);
        check.due("slot(1, 1), CERT of view 0", x.slot(1, 1), ACCEPTED + CERT);
        int one = expire(1);
        message(one, VIEW_CHANGE, 1, 2, 0, 1);
        valid(one, true);
        int two = expire(2);
        message(two, VIEW_CHANGE, 2, 2, 0, 2);
        valid(two, true);

        begin("rule 2: a later CERT takes the place of an earlier one");
        carryOver();
        take(1, find(PREPARE, 2, 1, 1), find(PREPARE, 3, 1, 1));
        check.due("slot(1, 1)", x.slot(1, 1), ACCEPTED + SENT + 2 * PREPARED + COMMITTED + 2 * CERT);
        message(expire(1), VIEW_CHANGE, 1, 2, 0, 2);
    }

    private void beginsWithoutAccepted() {
        begin("BEGINS: no ACCEPTED is there any more; CERT and DECIDED are");
        x.submit(0, 1, 2, 7);
        x.submit(1, 1, 2, 7);
        x.corrupt(0);
        agree(1, 0);
        int second = x.forge(PRE_PREPARE, 0, 2, 1);
        take(1, second);
        take(2, second);
        take(1, find(PREPARE, 2, 0, 2));
        take(1, x.forge(PRE_PREPARE, 0, 3, -1));
        check.due("slot(1, 3)", x.slot(1, 3), ACCEPTED + PREPARED);
        expire(1);
        check.due("slot(1, 1)", x.slot(1, 1), DECIDED + CERT);
        check.due("slot(1, 2)", x.slot(1, 2), CERT);
        check.due("slot(1, 3)", x.slot(1, 3), 0);
        check.due("ordered(1, 1)", x.ordered(1, 1), 0);
        check.due("ordered(1, 2)", x.ordered(1, 2), -2);
        check.due("ordered(1, 3)", x.ordered(1, 3), -2);
        check.due("executed(1)", x.executed(1), 1);
    }

    private void entersWithoutAccepted() {
        begin("ENTERS: no ACCEPTED is there any more but the orders");
        x.submit(0, 1, 0, 5);
        x.submit(1, 1, 1, 6);
        take(0, 0, 1);
        check.due("slot(0, 2)", x.slot(0, 2), ACCEPTED);
        int first = find(PRE_PREPARE, 0, 0, 1);
        take(1, first);
        take(2, first);
        take(1, find(PREPARE, 2, 0, 1));
        take(3, 0);
        for (int r = 1; r < 4; r++) {
            expire(r);
        }
        take(1, find(VIEW_CHANGE, 2, 1, 0), find(VIEW_CHANGE, 3, 1, 0));
        int newView = newViewOf(1);
        check.due("orders", x.look(newView, 4), 2);
        take(0, newView);
        check.due("view(0)", x.view(0), 1);
        check.due("slot(0, 1)", x.slot(0, 1), ACCEPTED + PREPARED);
        check.due("slot(0, 2)", x.slot(0, 2), 0);
        check.due("ordered(0, 2)", x.ordered(0, 2), -2);
        check.due("messages(): one PREPARE", x.messages(), newView + 2);
        check.due("waiting(0)", x.waiting(0), 2);
    }

    // Replicas 1 and 2 have settled at 2 and prepared a third request; replica 1 opens view 1 with it.
    private int openAtTwo() {
        submitTwo(true);
        int third = x.submit(0, 1, 0, 9);
        take(0, third);
        int prePrepare = last();
        take(1, prePrepare);
        take(2, prePrepare);
        take(1, find(PREPARE, 2, 0, 3));
        take(3, third);
        int one = expire(1);
        int two = expire(2);
        int three = expire(3);
        message(one, VIEW_CHANGE, 1, 1, 2, 1);
        message(two, VIEW_CHANGE, 2, 1, 2, 0);
        message(three, VIEW_CHANGE, 3, 1, 0, 0);
        take(1, two, three);
        message(three + 1, NEW_VIEW, 1, 1, one + 256 * two + 65536 * three, third + 2);
        valid(three + 1, true);
        return three + 1;
    }

    private void entersBehindTheStart() {
        begin("ENTERS: START is greater than h");
        int newView = openAtTwo();
        check.due("stable(3)", x.stable(3), 0);
        take(3, newView);
        check.due("stable(3)", x.stable(3), 2);
        check.due("executed(3)", x.executed(3), 2);
        check.due("state(3)", x.state(3), AFTER_TWO);
        check.due("slot(3, 3)", x.slot(3, 3), ACCEPTED + PREPARED);
        check.due("slot(3, 6)", x.slot(3, 6), 0);
        check.due("slot(3, 2)", x.slot(3, 2), -1);
        message(newView + 1, PREPARE, 3, 1, 3, x.ordered(3, 3));
    }

    private void entersAtTheStart() {
        begin("ENTERS: START is h");
        int newView = openAtTwo();
        for (int r = 0; r < 3; r += 2) {
            take(r, newView);
            check.due("stable(" + r + ")", x.stable(r), 2);
            check.due("executed(" + r + ")", x.executed(r), 2);
            check.due("state(" + r + ")", x.state(r), AFTER_TWO);
            check.due("slot(" + r + ", 3)", x.slot(r, 3), ACCEPTED + PREPARED);
            check.due("slot(" + r + ", 4)", x.slot(r, 4), 0);
        }
        check.due("slot(1, 3)", x.slot(1, 3), ACCEPTED + CERT);
    }

    private void entersAheadOfTheStart() {
        begin("ENTERS: START is less than h, only the orders beyond h count");
        submitTwo(false);
        submitTwo(false);
        take(0, checkpoint(1, 2), checkpoint(2, 2));
        int request = x.submit(0, 1, 0, 9);
        for (int r = 1; r < 4; r++) {
            take(r, request);
            expire(r);
        }
        take(1, find(VIEW_CHANGE, 2, 1, 0), find(VIEW_CHANGE, 3, 1, 0));
        int newView = newViewOf(1);
        int orders = (int) x.look(newView, 4);
        for (int j = 0; j < 4; j++) {
            check.due("order " + j, (orders >> (8 * j)) & 255, x.ordered(2, 1 + j) + 2);
        }
        take(0, newView);
        check.due("stable(0)", x.stable(0), 2);
        check.due("executed(0)", x.executed(0), 4);
        check.due("slot(0, 3)", x.slot(0, 3), ACCEPTED + DECIDED + PREPARED + CERT);
        check.due("slot(0, 4)", x.slot(0, 4), ACCEPTED + DECIDED + PREPARED + CERT);
        check.due("slot(0, 5)", x.slot(0, 5), 0);
        check.due("slot(0, 6)", x.slot(0, 6), 0);
        message(newView + 1, PREPARE, 0, 1, 3, x.ordered(0, 3));
        message(newView + 2, PREPARE, 0, 1, 4, x.ordered(0, 4));
        check.due("messages()", x.messages(), newView + 3);

        begin("ENTERS: START is so far below h that no order counts");
        submitTwo(false);
        submitTwo(false);
        take(0, checkpoint(1, 4), checkpoint(2, 4));
        request = x.submit(0, 1, 0, 9);
        for (int r = 1; r < 4; r++) {
            take(r, request);
            expire(r);
        }
        take(1, find(VIEW_CHANGE, 2, 1, 0), find(VIEW_CHANGE, 3, 1, 0));
        newView = newViewOf(1);
        take(0, newView);
        check.due("view(0)", x.view(0), 1);
        for (int n = 5; n <= 8; n++) {
            check.due("slot(0, " + n + ")", x.slot(0, n), 0);
        }
        check.due("messages()", x.messages(), newView + 1);
    }

    private void entersWithMoreExecutedThanTheStart() {
        begin("ENTERS: START is greater than h, and e is START");
        entersFromWithin(false);
        check.due("executed(0)", x.executed(0), 2);
        check.due("stable(0)", x.stable(0), 2);
        check.due("state(0)", x.state(0), AFTER_TWO);
        check.due("slot(0, 3)", x.slot(0, 3), 0);

        begin("ENTERS: START is greater than h, and e is greater than START");
        entersFromWithin(true);
        check.due("executed(0)", x.executed(0), 3);
        check.due("stable(0)", x.stable(0), 2);
        check.due("state(0)", x.state(0), AFTER_TWO + (1L << 16) + (5L << 24));
        check.due("slot(0, 3)", x.slot(0, 3), ACCEPTED + DECIDED + PREPARED + CERT);
    }

    // Replica 0 has executed two or three requests and settled nowhere when it enters a view that starts with 3.
    private void entersFromWithin(boolean third) {
        submitTwo(false);
        take(1, checkpoint(0, 2), checkpoint(2, 2));
        take(2, checkpoint(0, 2), checkpoint(1, 2));
        if (third) {
            x.submit(0, 1, 0, 5);
            spread(false);
        }
        int request = x.submit(1, 1, 0, 9);
        for (int r = 1; r < 4; r++) {
            take(r, request);
            expire(r);
        }
        take(1, find(VIEW_CHANGE, 2, 1, 2), find(VIEW_CHANGE, 3, 1, 0));
        check.due("stable(0)", x.stable(0), 0);
        take(0, newViewOf(1));
    }

    // Replica 1 has decided number 3 alone when a view starts with 3, be it that it opens the view or is given it.
    private void entersAndExecutes() {
        begin("ENTERS: what was decided beyond START is executed, also by the primary");
        x.submit(0, 1, 0, 5);
        x.submit(1, 1, 1, 6);
        spread(true, 0, 2, 3, 4, 5);
        x.submit(0, 2, 0, 3);
        spread(true, 0, 2, 3, 4, 5);
        check.due("executed(2)", x.executed(2), 3);
        take(1, find(PRE_PREPARE, 0, 0, 3), find(PREPARE, 2, 0, 3), find(COMMIT, 0, 0, 3), find(COMMIT, 2, 0, 3));
        check.due("slot(1, 3)", x.slot(1, 3) & DECIDED, DECIDED);
        check.due("executed(1)", x.executed(1), 0);
        int request = x.submit(1, 1, 0, 9);
        for (int r = 2; r < 4; r++) {
            take(r, request);
            expire(r);
        }
        take(1, find(VIEW_CHANGE, 2, 1, 2), find(VIEW_CHANGE, 3, 1, 2));
        check.due("view(1)", x.view(1), 1);
        message(find(VIEW_CHANGE, 1, 1, 0), VIEW_CHANGE, 1, 1, 0, 1 << 10);
        check.due("stable(1)", x.stable(1), 2);
        check.due("executed(1)", x.executed(1), 3);
        check.due("state(1)", x.state(1), x.state(2));
        check.due("REPLYs of 1", count(REPLY, 1, 0, 2), 1);

        begin("ENTERS: what was decided beyond START is executed");
        decideTheThird();
        request = x.submit(1, 1, 0, 9);
        take(3, request);
        for (int r = 1; r < 3; r++) {
            take(r, request);
            expire(r);
        }
        take(0, find(VIEW_CHANGE, 1, 1, 2), find(VIEW_CHANGE, 2, 1, 2));
        take(1, find(VIEW_CHANGE, 0, 1, 2), find(VIEW_CHANGE, 2, 1, 2));
        take(3, newViewOf(1));
        check.due("stable(3)", x.stable(3), 2);
        check.due("executed(3)", x.executed(3), 3);
        check.due("state(3)", x.state(3), x.state(0));
        check.due("REPLYs of 3", count(REPLY, 3, 0, 2), 1);
    }

    private void entersAndKnowsTheOrders() {
        begin("ENTERS: r knows the requests of the orders, but not the empty one");
        int newView = openWithAGap();
        check.due("waiting(3)", x.waiting(3), 1);
        take(3, newView);
        check.due("waiting(3)", x.waiting(3), 2);
        check.due("ordered(3, 1)", x.ordered(3, 1), -1);
        check.due("ordered(3, 2)", x.ordered(3, 2), 1);
        check.due("ordered(3, 3)", x.ordered(3, 3), -2);
        refuse(3, 0, 1);
    }
}
