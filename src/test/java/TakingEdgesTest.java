/**
 * What a replica, a client and a faulty replica take, condition by condition: each message that is refused differs
 * from one that is taken in the one thing that the document names. "All else leaves r as it is" is seen to in Watched.
 */
public final class TakingEdgesTest extends Scene {
    public static void main(String[] args) {
        TakingEdgesTest test = new TakingEdgesTest();
        test.requestKnown();
        test.requestDone();
        test.requestDonePerClient();
        test.requestWhileChanging();
        test.prePrepareView();
        test.prePrepareNumber();
        test.prePrepareNumberInAWindowThatMoved();
        test.prePrepareAccepted();
        test.prePrepareRequest();
        test.prePrepareSender();
        test.prePrepareWhileChanging();
        test.phaseView();
        test.phaseNumber();
        test.phaseNumberInAWindowThatMoved();
        test.phaseOnceOfASender();
        test.phaseOfThePrimary();
        test.phaseWhileChanging();
        test.phaseOnceInEachView();
        test.checkpointNumber();
        test.checkpointAtTheStableNumber();
        test.checkpointOnceOfASender();
        test.checkpointWhileChanging();
        test.viewChangeValid();
        test.viewChangeView();
        test.viewChangeWhileChanging();
        test.viewChangeInstead();
        test.newViewValid();
        test.newViewSender();
        test.newViewView();
        test.newViewFarAhead();
        test.ownMessages();
        test.replyOfAnotherClient();
        test.replyTimestamp();
        test.replyWithNothingOutstanding();
        test.replyOnceOfASender();
        test.replyTwoAlike();
        test.replyForTheNextRequest();
        test.clientsTakeRepliesAlone();
        test.faultyTakesNothing();
        test.faultyKeepsAll();
        test.faultyForgesOnTheBoardAlone();
        test.faultySaidBefore();
        test.end();
    }

    private void requestKnown() {
        begin("REQUEST: r does not know it");
        x.submit(0, 1, 2, 7);
        take(1, 0);
        refuse(1, 0, 0);
        take(0, 0);
        refuse(0, 0);
        take(2, last());
        refuse(2, 0);
        check.due("waiting(2)", x.waiting(2), 1);
        x.submit(1, 1, 2, 7);
        take(2, last());
        check.due("waiting(2)", x.waiting(2), 2);
    }

    // Replica 3 knows none of the requests: what is done it has by the checkpoints alone.
    private void requestDone() {
        begin("REQUEST: its timestamp is greater than the one of STATE");
        submitTwo(false);
        submitTwo(false);
        int third = find(REQUEST, 4, 2, 1);
        take(3, checkpoint(0, 4), checkpoint(1, 4), checkpoint(2, 4));
        check.due("state(3)", x.state(3), AFTER_FOUR);
        refuse(3, 0, 1, third, find(REQUEST, 5, 2, 1));
        check.due("waiting(3)", x.waiting(3), 0);
        check.due("timer(3)", x.timer(3), 0);
        int next = x.submit(0, 1, 2, 7);
        check.due("timestamp", x.look(next, 2), 3);
        take(3, next);
        check.due("waiting(3)", x.waiting(3), 1);
        check.due("timer(3)", x.timer(3), 4);
    }

    private void requestDonePerClient() {
        for (int client = 0; client < 2; client++) {
            begin("REQUEST: the timestamp that STATE has for its client, " + client + " asks twice");
            for (int i = 0; i < 2; i++) {
                x.submit(client, 1, 0, 1);
                spread(false);
            }
            take(3, checkpoint(0, 2), checkpoint(1, 2), checkpoint(2, 2));
            check.due("stable(3)", x.stable(3), 2);
            refuse(3, 0, find(REQUEST, 4 + client, 2, 1));
            take(3, x.submit(1 - client, 1, 0, 1));
            take(3, x.submit(client, 1, 0, 1));
            check.due("waiting(3)", x.waiting(3), 2);
        }
    }

    private void requestWhileChanging() {
        begin("REQUEST: also while r is changing");
        x.submit(0, 1, 2, 7);
        take(2, 0);
        expire(2);
        take(2, x.submit(1, 1, 2, 7));
        refuse(2, last());
        check.due("waiting(2)", x.waiting(2), 2);
        check.due("timer(2)", x.timer(2), 8);
    }

    private void prePrepareView() {
        begin("PRE-PREPARE: the view is VIEW");
        x.corrupt(0);
        int[] wrong = {MIN, -4, -1, 1, 4, 16, MAX};
        for (int view : wrong) {
            refuse(1, x.forge(PRE_PREPARE, view, 1, -1));
        }
        take(1, x.forge(PRE_PREPARE, 0, 1, -1));
        check.due("slot(1, 1)", x.slot(1, 1), ACCEPTED + PREPARED);
    }

    private void prePrepareNumber() {
        begin("PRE-PREPARE: n is in the window");
        x.corrupt(0);
        int[] wrong = {MIN, MIN + 1, -3, -1, 0, 5, 6, MAX};
        for (int n : wrong) {
            refuse(1, x.forge(PRE_PREPARE, 0, n, -1));
        }
        int[] right = {4, 1, 3, 2};
        for (int n : right) {
            take(1, x.forge(PRE_PREPARE, 0, n, -1));
            message(last(), PREPARE, 1, 0, n, -1);
        }
    }

    private void prePrepareNumberInAWindowThatMoved() {
        begin("PRE-PREPARE: n is in the window h + 1 .. h + 4, h is 2");
        submitTwo(true);
        x.corrupt(0);
        int[] wrong = {0, 1, 2, 7, 8};
        for (int n : wrong) {
            refuse(1, x.forge(PRE_PREPARE, 0, n, -1));
        }
        take(1, x.forge(PRE_PREPARE, 0, 3, -1));
        take(1, x.forge(PRE_PREPARE, 0, 6, -1));
        check.due("slot(1, 3)", x.slot(1, 3), ACCEPTED + PREPARED);
        check.due("slot(1, 6)", x.slot(1, 6), ACCEPTED + PREPARED);
        check.due("slot(1, 4)", x.slot(1, 4), 0);
        // Replica 3 has settled nowhere yet.
        refuse(3, x.forge(PRE_PREPARE, 0, 5, -1));
        take(1, last());
    }

    private void prePrepareAccepted() {
        begin("PRE-PREPARE: ACCEPTED(n) is not there");
        x.submit(0, 1, 2, 7);
        x.corrupt(0);
        int empty = x.forge(PRE_PREPARE, 0, 1, -1);
        int first = x.forge(PRE_PREPARE, 0, 1, 0);
        int again = x.forge(PRE_PREPARE, 0, 1, 0);
        take(1, first);
        refuse(1, first, again, empty);
        check.due("ordered(1, 1)", x.ordered(1, 1), 0);
        // The empty request is there as well as any other.
        take(2, empty);
        refuse(2, empty, first, again);
        check.due("ordered(2, 1)", x.ordered(2, 1), -1);
        check.due("waiting(2)", x.waiting(2), 0);
    }

    private void prePrepareRequest() {
        begin("PRE-PREPARE: the request is -1 or the number of a REQUEST below");
        x.corrupt(0);
        x.submit(0, 1, 2, 7);
        int[] wrong = {MIN, -3, -2, MAX};
        for (int request : wrong) {
            refuse(1, x.forge(PRE_PREPARE, 0, 1, request));
        }
        int itself = x.messages();
        refuse(1, x.forge(PRE_PREPARE, 0, 1, itself));
        for (int kind = 1; kind <= 6; kind++) {
            int other = x.forge(kind, 9, 9, 9);
            refuse(1, x.forge(PRE_PREPARE, 0, 1, other));
        }
        int other = x.forgeCheckpoint(3, 0);
        refuse(1, x.forge(PRE_PREPARE, 0, 1, other));
        int above = x.forge(PRE_PREPARE, 0, 1, x.messages() + 1);
        refuse(1, above);
        check.due("submit", x.submit(1, 1, 2, 7), above + 1);
        refuse(1, above);
        check.due("waiting(1)", x.waiting(1), 0);
        take(1, x.forge(PRE_PREPARE, 0, 1, above + 1));
        take(1, x.forge(PRE_PREPARE, 0, 2, 0));
        take(1, x.forge(PRE_PREPARE, 0, 3, -1));
        check.due("waiting(1)", x.waiting(1), 2);
    }

    private void prePrepareSender() {
        for (int r = 1; r < 4; r++) {
            begin("PRE-PREPARE: the sender is the primary, not " + r);
            x.corrupt(r);
            int m = x.forge(PRE_PREPARE, 0, 1, -1);
            for (int party = 0; party < 4; party++) {
                refuse(party, m);
            }
        }
        begin("PRE-PREPARE: the sender is the primary of view 1, no more of view 0");
        x.submit(0, 1, 2, 7);
        x.corrupt(0);
        int newView = enterViewOne(2);
        take(3, newView);
        refuse(3, x.forge(PRE_PREPARE, 1, 1, -1), x.forge(PRE_PREPARE, 0, 1, -1));
        take(3, find(PRE_PREPARE, 1, 1, 1));
    }

    // Replicas 1, 2, 3 change to view 1 by request 0, and replicas 1 and r enter it; the NEW-VIEW's number.
    private int enterViewOne(int r) {
        for (int voter = 1; voter < 4; voter++) {
            take(voter, 0);
            expire(voter);
        }
        take(1, find(VIEW_CHANGE, 2, 1, 0), find(VIEW_CHANGE, 3, 1, 0));
        int newView = newViewOf(1);
        if (r != 1) {
            take(r, newView);
        }
        return newView;
    }

    private void prePrepareWhileChanging() {
        begin("PRE-PREPARE: r is not changing");
        x.submit(0, 1, 2, 7);
        x.corrupt(1);
        int newView = forgeViewOne();
        int prePrepare = x.forge(PRE_PREPARE, 1, 1, -1);
        refuse(2, prePrepare);
        check.due("view(2)", x.view(2), 17);
        take(2, newView);
        take(2, prePrepare);
        // Replica 0 did not change: it is in view 0 yet.
        refuse(0, prePrepare);
        take(0, newView, prePrepare);
    }

    // Replicas 2 and 3 change to view 1 by request 0, and the faulty replica 1 opens it; the NEW-VIEW's number.
    private int forgeViewOne() {
        take(2, 0);
        take(3, 0);
        int two = expire(2);
        int three = expire(3);
        int one = x.forge(VIEW_CHANGE, 1, 0, 0);
        int newView = x.forge(NEW_VIEW, 1, one + 256 * two + 65536 * three, 0);
        valid(newView, true);
        return newView;
    }

    private void phaseView() {
        for (int kind = PREPARE; kind <= COMMIT; kind++) {
            begin("PREPARE and COMMIT: the view is VIEW, kind " + kind);
            x.corrupt(3);
            int[] wrong = {MIN, -4, -1, 1, 4, 16, MAX};
            for (int view : wrong) {
                refuse(1, x.forge(kind, view, 1, 0));
            }
            take(1, x.forge(kind, 0, 1, 0));
        }
    }

    private void phaseNumber() {
        for (int kind = PREPARE; kind <= COMMIT; kind++) {
            begin("PREPARE and COMMIT: n is in the window, kind " + kind);
            x.corrupt(3);
            int[] wrong = {MIN, MIN + 1, -3, -1, 0, 5, 6, MAX};
            for (int n : wrong) {
                refuse(1, x.forge(kind, 0, n, 0));
            }
            int[] right = {4, 1, 3, 2};
            for (int n : right) {
                take(1, x.forge(kind, 0, n, 0));
            }
        }
    }

    private void phaseNumberInAWindowThatMoved() {
        for (int kind = PREPARE; kind <= COMMIT; kind++) {
            begin("PREPARE and COMMIT: n is in the window, h is 2, kind " + kind);
            submitTwo(true);
            x.corrupt(3);
            int[] wrong = {0, 1, 2, 7, 8};
            for (int n : wrong) {
                refuse(1, x.forge(kind, 0, n, 0));
            }
            for (int n = 3; n <= 6; n++) {
                take(1, x.forge(kind, 0, n, 0));
                refuse(1, x.forge(kind, 0, n, 0));
            }
        }
    }

    private void phaseOnceOfASender() {
        for (int kind = PREPARE; kind <= COMMIT; kind++) {
            begin("PREPARE and COMMIT: none noted of that sender for that view and n, kind " + kind);
            x.submit(0, 1, 2, 7);
            x.corrupt(3);
            int first = x.forge(kind, 0, 2, 5);
            int other = x.forge(kind, 0, 2, 0);
            int unnamed = x.forge(kind, 0, 1, -2);
            take(1, first, unnamed);
            refuse(1, first, other, unnamed, x.forge(kind, 0, 1, 0));
            take(1, x.forge(kind, 0, 3, 5));
            take(2, other);
            // The same kind of another sender for the same n.
            take(0, 0);
            int prePrepare = last();
            take(1, prePrepare);
            take(2, prePrepare);
            if (kind == PREPARE) {
                take(1, find(PREPARE, 2, 0, 1));
                refuse(1, find(PREPARE, 2, 0, 1));
            }
            check.due("slot(1, 1)", x.slot(1, 1) & 1, 1);
        }
    }

    private void phaseOfThePrimary() {
        begin("PREPARE: the sender is not the primary; COMMIT: it may be");
        x.corrupt(0);
        for (int n = 1; n <= 4; n++) {
            refuse(1, x.forge(PREPARE, 0, n, -1));
            take(1, x.forge(COMMIT, 0, n, -1));
        }
        begin("PREPARE: the sender is not the primary, who is another one in view 1");
        x.submit(0, 1, 2, 7);
        x.corrupt(1);
        take(2, x.forge(PREPARE, 0, 1, -1));
        int newView = forgeViewOne();
        take(2, newView);
        refuse(2, x.forge(PREPARE, 1, 1, -1));
        take(2, x.forge(COMMIT, 1, 1, -1));

        begin("PREPARE: the primary of view 0 may send one in view 1");
        x.submit(0, 1, 2, 7);
        x.corrupt(0);
        enterViewOne(2);
        take(2, x.forge(PREPARE, 1, 1, 0));
        take(1, last());
        take(2, x.forge(COMMIT, 1, 1, 0));
    }

    private void phaseWhileChanging() {
        for (int kind = PREPARE; kind <= COMMIT; kind++) {
            begin("PREPARE and COMMIT: r is not changing, kind " + kind);
            x.submit(0, 1, 2, 7);
            x.corrupt(3);
            for (int voter = 1; voter < 3; voter++) {
                take(voter, 0);
                expire(voter);
            }
            int now = x.forge(kind, 1, 1, 0);
            int old = x.forge(kind, 0, 1, 0);
            refuse(2, now, old);
            take(1, x.forge(VIEW_CHANGE, 1, 0, 0), find(VIEW_CHANGE, 2, 1, 0));
            check.due("view(1)", x.view(1), 1);
            take(2, newViewOf(1));
            refuse(2, old);
            take(2, now);
            refuse(0, now);
            take(0, old);
        }
    }

    private void phaseOnceInEachView() {
        for (int kind = PREPARE; kind <= COMMIT; kind++) {
            begin("PREPARE and COMMIT: one for each view, kind " + kind);
            x.submit(0, 1, 2, 7);
            x.corrupt(3);
            take(2, x.forge(kind, 0, 1, 0));
            for (int voter = 1; voter < 3; voter++) {
                take(voter, 0);
                expire(voter);
            }
            take(1, x.forge(VIEW_CHANGE, 1, 0, 0), find(VIEW_CHANGE, 2, 1, 0));
            take(2, newViewOf(1));
            take(2, x.forge(kind, 1, 1, 0));
            refuse(2, x.forge(kind, 1, 1, 0));
            // What was noted for the view before counts no more.
            take(2, find(PRE_PREPARE, 1, 1, 1));
            int prepares = kind == PREPARE ? 2 : 1;
            check.due("slot(2, 1)", x.slot(2, 1) / PREPARED % 8, prepares);
        }
    }

    private void checkpointNumber() {
        begin("CHECKPOINT: n is even and greater than h");
        x.corrupt(3);
        int[] wrong = {MIN, MIN + 1, -2, -1, 0, 1, 3, 5, MAX};
        for (int n : wrong) {
            refuse(1, x.forgeCheckpoint(n, 0));
        }
        int[] right = {2, 4, 6, 1000, MAX - 1};
        for (int n : right) {
            take(1, x.forgeCheckpoint(n, 0));
        }
        check.due("stable(1)", x.stable(1), 0);
        // Each of these is noted now, the first and the last.
        for (int n : right) {
            refuse(1, x.forgeCheckpoint(n, 0));
        }
    }

    private void checkpointAtTheStableNumber() {
        begin("CHECKPOINT: n is greater than h, h is 2");
        submitTwo(true);
        x.corrupt(3);
        check.due("stable(1)", x.stable(1), 2);
        int two = x.forgeCheckpoint(2, AFTER_TWO);
        refuse(1, two, x.forgeCheckpoint(3, 0), x.forgeCheckpoint(0, 0));
        take(1, x.forgeCheckpoint(4, 0));
    }

    private void checkpointOnceOfASender() {
        begin("CHECKPOINT: none noted of that sender for n");
        submitTwo(false);
        x.corrupt(3);
        int first = x.forgeCheckpoint(2, 1);
        int other = x.forgeCheckpoint(2, AFTER_TWO);
        take(1, first);
        refuse(1, first, other);
        take(1, x.forgeCheckpoint(4, 1));
        refuse(1, x.forgeCheckpoint(4, 2));
        take(1, checkpoint(0, 2));
        refuse(1, checkpoint(0, 2));
        check.due("stable(1)", x.stable(1), 0);
        take(1, checkpoint(2, 2));
        check.due("stable(1)", x.stable(1), 2);
    }

    private void checkpointWhileChanging() {
        begin("CHECKPOINT: also while r is changing");
        submitTwo(false);
        x.submit(0, 1, 2, 7);
        take(1, last());
        expire(1);
        take(1, checkpoint(0, 2), checkpoint(2, 2));
        check.due("stable(1)", x.stable(1), 2);
        check.due("view(1)", x.view(1), 17);
    }

    private void viewChangeValid() {
        begin("VIEW-CHANGE: it is VALID");
        x.corrupt(3);
        refuse(1, x.forge(VIEW_CHANGE, 0, 0, 0), x.forge(VIEW_CHANGE, 16, 0, 0), x.forge(VIEW_CHANGE, 1, 2, 0),
                x.forge(VIEW_CHANGE, 1, 0, 1), x.forge(VIEW_CHANGE, 1, 0, 1 << 20));
        take(1, x.forge(VIEW_CHANGE, 1, 0, 0));
        take(2, x.forge(VIEW_CHANGE, 15, 0, 0));
    }

    private void viewChangeView() {
        begin("VIEW-CHANGE: its view is greater than VIEW");
        x.submit(0, 1, 2, 7);
        x.corrupt(0);
        enterViewOne(2);
        check.due("view(2)", x.view(2), 1);
        refuse(2, x.forge(VIEW_CHANGE, 1, 0, 0), find(VIEW_CHANGE, 1, 1, 0), find(VIEW_CHANGE, 3, 1, 0));
        take(2, x.forge(VIEW_CHANGE, 2, 0, 0));
        take(1, last());
        check.due("view(2)", x.view(2), 1);
    }

    private void viewChangeWhileChanging() {
        begin("VIEW-CHANGE: its view is VIEW while r is changing");
        x.submit(0, 1, 2, 7);
        x.corrupt(0);
        for (int r = 1; r < 4; r++) {
            take(r, 0);
        }
        int three = expire(3);
        expire(2);
        expire(2);
        check.due("view(2)", x.view(2), 18);
        int one = x.forge(VIEW_CHANGE, 1, 0, 0);
        refuse(2, one, three);
        take(2, x.forge(VIEW_CHANGE, 2, 0, 0));
        refuse(2, one);
        check.due("view(2), two votes", x.view(2), 18);
        int again = expire(3);
        message(again, VIEW_CHANGE, 3, 2, 0, 0);
        take(2, again);
        check.due("view(2), three votes", x.view(2), 2);
    }

    private void viewChangeInstead() {
        begin("VIEW-CHANGE: its view is greater than that of the one noted of that sender");
        x.submit(0, 1, 2, 7);
        x.corrupt(3);
        int five = x.forge(VIEW_CHANGE, 5, 0, 0);
        int four = x.forge(VIEW_CHANGE, 4, 0, 0);
        int like = x.forge(VIEW_CHANGE, 5, 0, 0);
        int six = x.forge(VIEW_CHANGE, 6, 0, 0);
        take(1, five);
        refuse(1, five, four, like);
        take(1, six);
        refuse(1, five, six);
        // One of another sender may be lower; the least view ahead is begun then.
        take(2, 0);
        int one = expire(2);
        take(1, one);
        check.due("view(1)", x.view(1), 17);
        // The older ones are gone: only view 6 is ahead now.
        int two = expire(2);
        take(1, two);
        check.due("view(1)", x.view(1), 18);
    }

    private void newViewValid() {
        begin("NEW-VIEW: it is VALID");
        x.submit(0, 1, 2, 7);
        x.corrupt(1);
        int newView = forgeViewOne();
        int votes = (int) x.look(newView, 3);
        int wrong = x.forge(NEW_VIEW, 1, votes, 1);
        valid(wrong, false);
        refuse(2, wrong, x.forge(NEW_VIEW, 1, 0, 0), x.forge(NEW_VIEW, 5, votes, 0));
        refuse(0, wrong);
        check.due("view(2)", x.view(2), 17);
        take(2, newView);
        check.due("view(2)", x.view(2), 1);
    }

    private void newViewSender() {
        begin("NEW-VIEW: the sender is the primary of its view");
        x.submit(0, 1, 2, 7);
        x.corrupt(0);
        int right = enterViewOne(2);
        int votes = (int) x.look(right, 3);
        int wrong = x.forge(NEW_VIEW, 1, votes, 0);
        valid(wrong, true);
        check.due("view(3)", x.view(3), 17);
        refuse(3, wrong);
        take(3, right);
    }

    private void newViewView() {
        begin("NEW-VIEW: its view is greater than VIEW, or is VIEW while r is changing");
        x.submit(0, 1, 2, 7);
        x.corrupt(1);
        int newView = forgeViewOne();
        int again = x.forge(NEW_VIEW, 1, (int) x.look(newView, 3), 0);
        valid(again, true);
        // Replica 3 goes on to view 2: view 1 is past for it.
        expire(3);
        check.due("view(3)", x.view(3), 18);
        refuse(3, newView, again);
        check.due("view(2)", x.view(2), 17);
        take(2, newView);
        check.due("view(2), entered", x.view(2), 1);
        refuse(2, newView, again);
        check.due("view(0)", x.view(0), 0);
        take(0, again);
        check.due("view(0), entered", x.view(0), 1);
        refuse(0, newView);
    }

    // Replica 1 comes to view 4 step by step, replica 0, its primary, and the faulty one follow at once.
    private void newViewFarAhead() {
        begin("NEW-VIEW: the primary of view 4 is replica 0 again");
        x.submit(0, 1, 2, 7);
        x.corrupt(3);
        take(1, 0);
        int four = -1;
        for (int view = 1; view <= 4; view++) {
            four = expire(1);
        }
        message(four, VIEW_CHANGE, 1, 4, 0, 0);
        take(0, four, x.forge(VIEW_CHANGE, 4, 0, 0));
        check.due("view(0)", x.view(0), 4);
        int newView = newViewOf(4);
        check.due("sender", x.look(newView, 1), 0);
        valid(newView, true);
        int wrong = x.forge(NEW_VIEW, 4, (int) x.look(newView, 3), 0);
        valid(wrong, true);
        refuse(2, wrong);
        take(2, newView);
        check.due("view(2)", x.view(2), 4);
        take(1, newView);
        check.due("view(1)", x.view(1), 4);
        take(0, 0);
        message(last(), PRE_PREPARE, 0, 4, 1, 0);
        take(2, last());
        message(last(), PREPARE, 2, 4, 1, 0);
    }

    private void ownMessages() {
        begin("the sender is not r");
        x.submit(0, 1, 0, 5);
        x.submit(1, 1, 1, 6);
        spread(false);
        int request = x.submit(0, 1, 0, 5);
        for (int r = 1; r < 3; r++) {
            take(r, request);
            expire(r);
        }
        take(3, find(VIEW_CHANGE, 1, 1, 0), find(VIEW_CHANGE, 2, 1, 0));
        take(1, find(VIEW_CHANGE, 2, 1, 0), find(VIEW_CHANGE, 3, 1, 0));
        check.due("view(1)", x.view(1), 1);
        for (int m = 0; m < x.messages(); m++) {
            int sender = (int) x.look(m, 1);
            refuse(sender, m);
        }
    }

    private void replyOfAnotherClient() {
        begin("CLIENT: its own number");
        x.submit(0, 1, 2, 7);
        x.submit(1, 1, 2, 7);
        x.corrupt(2);
        int[] none = {MIN, -1, 2, 4, 5, MAX};
        for (int client : none) {
            int m = x.forge(REPLY, client, 1, 3);
            refuse(4, m);
            refuse(5, m);
        }
        int zero = x.forge(REPLY, 0, 1, 3);
        int one = x.forge(REPLY, 1, 1, 3);
        refuse(4, one);
        refuse(5, zero);
        take(4, zero);
        take(5, one);
    }

    private void replyTimestamp() {
        begin("CLIENT: the timestamp of the outstanding request");
        x.corrupt(3);
        int none = x.forge(REPLY, 0, 0, 3);
        int first = x.forge(REPLY, 0, 1, 3);
        refuse(4, none, first);
        x.submit(0, 1, 2, 7);
        int[] wrong = {MIN, -1, 0, 2, 257, MAX};
        for (int timestamp : wrong) {
            refuse(4, x.forge(REPLY, 0, timestamp, 3));
        }
        take(4, first);
        spread(true);
        check.due("outstanding(0)", x.outstanding(0), 0);
        refuse(4, none, first);
        x.submit(0, 1, 2, 7);
        refuse(4, first, x.forge(REPLY, 0, 3, 3));
        take(4, x.forge(REPLY, 0, 2, 3));
    }

    private void replyWithNothingOutstanding() {
        begin("CLIENT: with nothing outstanding no timestamp is that of a request, 0 neither");
        x.submit(0, 1, 2, 7);
        x.corrupt(3);
        spread(true);
        check.due("outstanding(0)", x.outstanding(0), 0);
        check.due("answer(0)", x.answer(0), 0);
        for (int timestamp = -1; timestamp <= 2; timestamp++) {
            refuse(4, x.forge(REPLY, 0, timestamp, 3));
            refuse(5, x.forge(REPLY, 1, timestamp, 3));
        }
        check.due("answer(0)", x.answer(0), 0);
    }

    private void replyOnceOfASender() {
        begin("CLIENT: one of each sender");
        x.submit(0, 2, 2, 7);
        x.corrupt(3);
        int first = x.forge(REPLY, 0, 1, 3);
        int like = x.forge(REPLY, 0, 1, 3);
        int other = x.forge(REPLY, 0, 1, 7);
        take(4, first);
        refuse(4, first, like, other);
        check.due("outstanding(0)", x.outstanding(0), 1);
        check.due("answer(0)", x.answer(0), -1);
        flood(0, 1, 2);
        take(4, find(REPLY, 1, 0, 1));
        refuse(4, find(REPLY, 1, 0, 1));
        check.due("outstanding(0)", x.outstanding(0), 1);
        take(4, find(REPLY, 0, 0, 1));
        check.due("outstanding(0)", x.outstanding(0), 0);
        check.due("answer(0)", x.answer(0), 7);
    }

    private void replyTwoAlike() {
        begin("CLIENT: two with the same result, a faulty one's among them");
        x.submit(0, 2, 2, 15);
        x.corrupt(3);
        flood(0, 1, 2);
        take(4, find(REPLY, 2, 0, 1));
        check.due("outstanding(0) after one", x.outstanding(0), 1);
        check.due("answer(0) after one", x.answer(0), -1);
        take(4, x.forge(REPLY, 0, 1, 15));
        check.due("outstanding(0) after two", x.outstanding(0), 0);
        check.due("answer(0) after two", x.answer(0), 15);
        refuse(4, find(REPLY, 0, 0, 1), find(REPLY, 1, 0, 1));

        begin("CLIENT: a result of 0 is an answer too");
        x.submit(1, 0, 2, 15);
        flood(0, 1, 2, 3, 5);
        check.due("outstanding(1)", x.outstanding(1), 0);
        check.due("answer(1)", x.answer(1), 0);
        check.due("answer(0)", x.answer(0), -1);
    }

    private void replyForTheNextRequest() {
        begin("CLIENT: the replies for the request before count no more");
        x.corrupt(3);
        x.submit(0, 1, 2, 7);
        take(4, x.forge(REPLY, 0, 1, 7));
        spread(true);
        check.due("answer(0)", x.answer(0), 0);
        x.submit(0, 0, 2, 0);
        flood(0, 1, 2);
        take(4, find(REPLY, 1, 0, 2));
        check.due("outstanding(0)", x.outstanding(0), 2);
        check.due("answer(0)", x.answer(0), 0);
        take(4, x.forge(REPLY, 0, 2, 7));
        check.due("outstanding(0)", x.outstanding(0), 0);
        check.due("answer(0)", x.answer(0), 7);
    }

    private void clientsTakeRepliesAlone() {
        begin("CLIENT: a REPLY alone");
        x.submit(0, 1, 2, 7);
        x.submit(1, 1, 2, 7);
        x.corrupt(2);
        for (int kind = 1; kind <= 6; kind++) {
            for (int client = 0; client < 2; client++) {
                int m = x.forge(kind, client, 1, 3);
                check.due("deliver of kind " + kind, x.deliver(m, 4 + client), kind == REPLY);
            }
        }
        for (int client = 0; client < 2; client++) {
            refuse(4 + client, 0, 1, x.forgeCheckpoint(client, 1));
        }
        int reply = x.forge(REPLY, 0, 1, 3);
        for (int r = 0; r < 4; r++) {
            refuse(r, reply);
        }
    }

    // Replica 3 would take each of these, were it correct.
    private void faultyTakesNothing() {
        begin("a faulty replica takes nothing");
        submitTwo(false);
        x.submit(0, 1, 0, 9);
        take(0, last());
        for (int r = 1; r < 3; r++) {
            take(r, find(REQUEST, 4, 2, 1));
            expire(r);
        }
        int[] numbers = {find(REQUEST, 4, 2, 1), find(PRE_PREPARE, 0, 0, 1), find(PREPARE, 1, 0, 1),
            find(COMMIT, 0, 0, 1), checkpoint(0, 2), find(VIEW_CHANGE, 1, 1, 0)};
        x.corrupt(3);
        refuse(3, numbers);
        take(1, x.forge(VIEW_CHANGE, 1, 0, 0), find(VIEW_CHANGE, 2, 1, 0));
        check.due("view(1)", x.view(1), 1);
        refuse(3, newViewOf(1));
        check.due("pump(3, 8)", x.pump(3, 8), 0);
        check.due("mark(3)", x.mark(3), 8);
        check.due("messages of it", find(PREPARE, 3, 0, 1), -1);

        begin("a correct one takes each of them");
        submitTwo(false);
        x.submit(0, 1, 0, 9);
        for (int r = 1; r < 3; r++) {
            take(r, find(REQUEST, 4, 2, 1));
            expire(r);
        }
        take(3, find(REQUEST, 4, 2, 1), find(PRE_PREPARE, 0, 0, 1), find(PREPARE, 1, 0, 1), find(COMMIT, 0, 0, 1),
                checkpoint(0, 2), find(VIEW_CHANGE, 1, 1, 0));
    }

    private void faultyKeepsAll() {
        begin("all a faulty replica had stays as it was");
        submitTwo(false);
        x.submit(0, 1, 0, 9);
        take(1, last(), checkpoint(0, 2));
        x.tick(1);
        int two = x.slot(1, 2);
        check.due("slot(1, 2)", two, ACCEPTED + SENT + DECIDED + 2 * PREPARED + 3 * COMMITTED + CERT);
        x.corrupt(1);
        refuse(1, checkpoint(2, 2));
        check.due("slot(1, 2)", x.slot(1, 2), two);
        check.due("ordered(1, 2)", x.ordered(1, 2), 1);
        check.due("executed(1)", x.executed(1), 2);
        check.due("stable(1)", x.stable(1), 0);
        check.due("state(1)", x.state(1), AFTER_TWO);
        check.due("timer(1)", x.timer(1), 3);
        check.due("waiting(1)", x.waiting(1), 1);
        check.due("view(1)", x.view(1), 0);
        check.due("mark(1)", x.mark(1), 0);

        begin("one that becomes faulty while it is changing stays so");
        x.submit(0, 1, 0, 9);
        take(1, 0);
        expire(1);
        x.corrupt(1);
        check.due("view(1)", x.view(1), 17);
        check.due("timer(1)", x.timer(1), 8);
        x.forge(VIEW_CHANGE, 2, 0, 0);
        check.due("view(1)", x.view(1), 17);
    }

    private void faultyForgesOnTheBoardAlone() {
        begin("what a faulty replica forges lies on the board alone");
        x.submit(0, 1, 0, 9);
        take(0, 0);
        take(1, 1);
        x.corrupt(1);
        x.forge(PREPARE, 0, 2, 0);
        x.forge(PREPARE, 0, 1, 0);
        x.forge(COMMIT, 0, 1, 0);
        x.forge(PRE_PREPARE, 0, 2, 0);
        x.forge(VIEW_CHANGE, 1, 0, 0);
        x.forge(NEW_VIEW, 1, 0, 0);
        x.forgeCheckpoint(2, 0);
        check.due("slot(1, 1)", x.slot(1, 1), ACCEPTED + PREPARED);
        check.due("slot(1, 2)", x.slot(1, 2), 0);
        check.due("view(1)", x.view(1), 0);
        check.due("stable(1)", x.stable(1), 0);

        begin("a faulty primary accepts nothing by what it forges");
        x.submit(0, 1, 0, 9);
        x.corrupt(0);
        take(1, x.forge(PRE_PREPARE, 0, 1, 0));
        check.due("slot(0, 1)", x.slot(0, 1), 0);
        check.due("ordered(0, 1)", x.ordered(0, 1), -2);
        check.due("waiting(0)", x.waiting(0), 0);
    }

    private void faultySaidBefore() {
        begin("what it said before it was faulty counts as before");
        x.submit(0, 1, 0, 9);
        take(0, 0);
        take(1, 1);
        x.corrupt(1);
        take(2, 1, find(PREPARE, 1, 0, 1));
        check.due("slot(2, 1)", x.slot(2, 1), ACCEPTED + SENT + 2 * PREPARED + COMMITTED + CERT);
        refuse(2, x.forge(PREPARE, 0, 1, 0));
    }
}
