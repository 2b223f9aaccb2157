/** The boundaries of CERTIFIED and BACKED, and of both kinds of VALID, as look(m, 5) and the orders tell them. */
public final class ValidEdgesTest extends Scene {
    public static void main(String[] args) {
        ValidEdgesTest test = new ValidEdgesTest();
        test.certifiedByThree();
        test.certifiedByOneState();
        test.certifiedNumbers();
        test.backedByTwo();
        test.backedWithoutThePrimary();
        test.backedByOneRequest();
        test.changeViews();
        test.changeBits();
        test.changeClaimsOfLowerViews();
        test.changeClaimsOfTheWindow();
        test.changeClaimsFromACheckpoint();
        test.newViews();
        test.newVoteNumbers();
        test.newVotesOfHighNumbers();
        test.newVotesBelow();
        test.newVotesOfThree();
        test.newVotesThatAreValid();
        test.newVotesForTheView();
        test.newOrdersToTheBit();
        test.newOrdersOfTheWindow();
        test.newOrdersOfHighRequests();
        test.newOrdersFromTheStart();
        test.newOrdersByALowerCheckpoint();
        test.newOrdersBeforeAClaim();
        test.newOrdersByTheGreatestView();
        test.end();
    }

    private int change(int view, int checkpoint, int claims) {
        return x.forge(VIEW_CHANGE, view, checkpoint, claims);
    }

    private int newView(int view, int votes, int orders) {
        return x.forge(NEW_VIEW, view, votes, orders);
    }

    private static int votes(int first, int second, int third) {
        return first + 256 * second + 65536 * third;
    }

    // The faulty primary orders the empty request at 1 and 2, and replicas 1, 2, 3 come to commit it.
    private void commitTwoEmptyOnes() {
        x.corrupt(0);
        for (int n = 1; n <= 2; n++) {
            int prePrepare = x.forge(PRE_PREPARE, 0, n, -1);
            x.forge(COMMIT, 0, n, -1);
            for (int r = 1; r < 4; r++) {
                take(r, prePrepare, prePrepare + 1);
            }
            for (int r = 1; r < 4; r++) {
                take(r, find(PREPARE, r % 3 + 1, 0, n));
            }
        }
    }

    // By a COMMIT of another replica beside the primary's and its own.
    private void execute(int r) {
        take(r, find(COMMIT, r % 3 + 1, 0, 1), find(COMMIT, r % 3 + 1, 0, 2));
        message(last(), CHECKPOINT, r, 2, 0, 0);
    }

    private void certifiedByThree() {
        begin("CERTIFIED: CHECKPOINTs of at least three different replicas");
        commitTwoEmptyOnes();
        int none = change(1, 2, 0);
        execute(1);
        int one = change(1, 2, 0);
        x.forgeCheckpoint(2, 0);
        x.forgeCheckpoint(2, 0);
        int two = change(1, 2, 0);
        execute(3);
        int three = change(1, 2, 0);
        execute(2);
        int four = change(1, 2, 0);
        valid(none, false);
        valid(one, false);
        valid(two, false);
        valid(three, true);
        valid(four, true);
        refuse(1, none, one, two);
        take(1, three);
    }

    private void certifiedByOneState() {
        begin("CERTIFIED: with that state");
        commitTwoEmptyOnes();
        x.forgeCheckpoint(2, 1);
        execute(1);
        execute(2);
        valid(change(1, 2, 0), false);
        execute(3);
        valid(change(1, 2, 0), true);

        begin("CERTIFIED: by CHECKPOINTs, not by other kinds with such fields");
        commitTwoEmptyOnes();
        execute(1);
        execute(2);
        for (int kind = 1; kind <= 6; kind++) {
            x.forge(kind, 2, 0, 0);
            valid(change(1, 2, 0), false);
        }
        x.forgeCheckpoint(2, 0);
        valid(change(1, 2, 0), true);

        begin("CERTIFIED: for that n");
        commitTwoEmptyOnes();
        x.forgeCheckpoint(4, 0);
        execute(1);
        execute(2);
        valid(change(1, 2, 0), false);
        valid(change(1, 4, 0), false);
        x.forgeCheckpoint(2, 0);
        valid(change(1, 2, 0), true);
        valid(change(1, 4, 0), false);
    }

    private void certifiedNumbers() {
        begin("CERTIFIED: 0 always is");
        x.corrupt(3);
        valid(change(1, 0, 0), true);
        int[] none = {MIN, -2, -1, 1, 2, 4, 256, MAX};
        for (int n : none) {
            valid(change(1, n, 0), false);
        }
        begin("CERTIFIED: 0 and what three say");
        submitTwo(true);
        x.corrupt(3);
        valid(change(1, 0, 0), true);
        valid(change(1, 2, 0), true);
        int[] others = {MIN, -2, -1, 1, 3, 4, MAX};
        for (int n : others) {
            valid(change(1, n, 0), false);
        }
    }

    private void backedByTwo() {
        begin("BACKED: PREPAREs of at least two different replicas below m");
        x.submit(0, 1, 2, 7);
        x.corrupt(3);
        take(0, 0);
        int none = change(1, 0, 1);
        take(1, 1);
        int one = change(1, 0, 1);
        take(2, 1);
        int two = change(1, 0, 1);
        valid(none, false);
        valid(one, false);
        valid(two, true);

        begin("BACKED: of two different replicas");
        x.submit(0, 1, 2, 7);
        x.corrupt(3);
        take(0, 0);
        x.forge(PREPARE, 0, 1, 0);
        x.forge(PREPARE, 0, 1, 0);
        valid(change(1, 0, 1), false);
        take(2, 1);
        valid(change(1, 0, 1), true);
    }

    private void backedWithoutThePrimary() {
        begin("BACKED: none of them the primary of w");
        x.submit(0, 1, 2, 7);
        x.corrupt(0);
        int prePrepare = x.forge(PRE_PREPARE, 0, 1, 0);
        x.forge(PREPARE, 0, 1, 0);
        take(3, prePrepare);
        x.forge(PREPARE, 0, 1, 0);
        valid(change(1, 0, 1), false);
        take(1, prePrepare);
        valid(change(1, 0, 1), true);

        begin("BACKED: the primary of view 0 may be one of them in view 1");
        x.corrupt(0);
        x.submit(0, 1, 2, 7);
        openViewOne();
        take(3, newViewOf(1), find(PRE_PREPARE, 1, 1, 1));
        valid(change(2, 0, 2), false);
        x.forge(PREPARE, 1, 1, 0);
        valid(change(2, 0, 2), true);
    }

    // Replicas 1, 2, 3 know request 0 and change to view 1, which replica 1 opens.
    private void openViewOne() {
        for (int r = 1; r < 4; r++) {
            take(r, find(REQUEST, 4, 1, 1));
            expire(r);
        }
        take(1, find(VIEW_CHANGE, 2, 1, 0), find(VIEW_CHANGE, 3, 1, 0));
    }

    private void backedByOneRequest() {
        begin("BACKED: for w, n and that request");
        x.submit(0, 1, 2, 7);
        x.submit(1, 1, 2, 7);
        x.corrupt(3);
        take(0, 0);
        take(1, find(PRE_PREPARE, 0, 0, 1));
        int[][] others = {{0, 1, 1}, {0, 1, -1}, {0, 2, 0}, {0, 0, 0}, {1, 1, 0}, {4, 1, 0}, {-1, 1, 0}};
        for (int[] f : others) {
            x.forge(PREPARE, f[0], f[1], f[2]);
            valid(change(1, 0, 1), false);
        }
        x.forge(COMMIT, 0, 1, 0);
        x.forge(PRE_PREPARE, 0, 1, 0);
        valid(change(1, 0, 1), false);
        x.forge(PREPARE, 0, 1, 0);
        valid(change(1, 0, 1), true);
    }

    private void changeViews() {
        begin("VALID VIEW-CHANGE: its view is 1 .. 15");
        x.corrupt(3);
        int[] wrong = {MIN, -1, 0, 16, 17, 31, MAX};
        for (int view : wrong) {
            int m = change(view, 0, 0);
            valid(m, false);
            refuse(1, m);
        }
        for (int view = 1; view <= 15; view++) {
            int m = change(view, 0, 0);
            valid(m, true);
            take(1, m);
        }
    }

    private void changeBits() {
        begin("VALID VIEW-CHANGE: bits 20 to 31 of the claims are 0");
        x.submit(0, 1, 2, 7);
        take(0, 0);
        take(1, 1);
        take(2, 1);
        x.corrupt(3);
        for (int bit = 20; bit <= 31; bit++) {
            valid(change(15, 0, 1 << bit), false);
            valid(change(15, 0, 1 + (1 << bit)), false);
        }
        valid(change(15, 0, -1), false);
        valid(change(15, 0, 0), true);
        valid(change(15, 0, 1), true);
    }

    // Request 0 is prepared at 1 in view 0 and again in view 1.
    private void prepareInTwoViews() {
        x.submit(0, 1, 2, 7);
        take(0, 0);
        take(1, 1);
        take(2, 1);
        take(1, find(PREPARE, 2, 0, 1));
        take(3, 0);
        for (int r = 1; r < 4; r++) {
            expire(r);
        }
        take(1, find(VIEW_CHANGE, 2, 1, 0), find(VIEW_CHANGE, 3, 1, 0));
        take(2, newViewOf(1));
        take(3, newViewOf(1));
        x.corrupt(0);
    }

    private void changeClaimsOfLowerViews() {
        begin("VALID VIEW-CHANGE: a claim's view is less than the message's");
        prepareInTwoViews();
        valid(change(1, 0, 1), true);
        valid(change(1, 0, 2), false);
        valid(change(2, 0, 1), true);
        valid(change(2, 0, 2), true);
        valid(change(15, 0, 2), true);
        // Views that nothing is backed in, up to the greatest that five bits hold.
        valid(change(2, 0, 3), false);
        valid(change(3, 0, 3), false);
        valid(change(15, 0, 15), false);
        valid(change(15, 0, 16), false);
        valid(change(15, 0, 17), false);
        valid(change(15, 0, 31), false);
    }

    private void changeClaimsOfTheWindow() {
        begin("VALID VIEW-CHANGE: each of the four claims");
        submitTwo(false);
        submitTwo(false);
        x.corrupt(3);
        int[] right = {0, 1, 1 << 5, 1 << 10, 1 << 15, 1 + (1 << 15), 1 + (1 << 5) + (1 << 10) + (1 << 15)};
        for (int claims : right) {
            valid(change(1, 0, claims), true);
        }
        for (int j = 0; j < 4; j++) {
            valid(change(2, 0, right[6] + (1 << (5 * j))), false);
            valid(change(15, 0, 16 << (5 * j)), false);
        }

        begin("VALID VIEW-CHANGE: each of the four claims is backed");
        submitTwo(false);
        x.corrupt(3);
        valid(change(1, 0, 1 + (1 << 5)), true);
        valid(change(1, 0, 1 << 10), false);
        valid(change(1, 0, 1 << 15), false);
        valid(change(1, 0, 1 + (1 << 5) + (1 << 10)), false);
    }

    private void changeClaimsFromACheckpoint() {
        begin("VALID VIEW-CHANGE: checkpoint + 1 + j is backed");
        submitTwo(true);
        x.submit(0, 1, 0, 5);
        spread(true);
        x.corrupt(3);
        valid(change(1, 2, 0), true);
        valid(change(1, 2, 1), true);
        valid(change(1, 2, 1 << 5), false);
        valid(change(1, 2, 1 << 15), false);
        valid(change(1, 0, 1 << 10), true);
        valid(change(1, 0, 1 << 15), false);
    }

    // Replicas 1, 2, 3 vote for view 1 and nothing was prepared; the faulty replica 0 votes too.
    private int[] vote() {
        x.submit(0, 1, 2, 7);
        x.corrupt(0);
        int[] voted = new int[4];
        for (int r = 1; r < 4; r++) {
            take(r, 0);
            voted[r] = expire(r);
        }
        voted[0] = change(1, 0, 0);
        return voted;
    }

    private void newViews() {
        begin("VALID NEW-VIEW: its view is 1 .. 15");
        int[] v = vote();
        int votes = votes(v[1], v[2], v[3]);
        valid(newView(1, votes, 0), true);
        int[] wrong = {MIN, -1, 0, 2, 15, 16, 17, MAX};
        for (int view : wrong) {
            valid(newView(view, votes, 0), false);
        }
    }

    private void newVoteNumbers() {
        begin("VALID NEW-VIEW: three numbers 0 .. 255");
        int[] v = vote();
        int votes = votes(v[1], v[2], v[3]);
        valid(newView(1, votes, 0), true);
        for (int bit = 24; bit <= 31; bit++) {
            valid(newView(1, votes + (1 << bit), 0), false);
        }
        valid(newView(1, votes(v[1], v[2], 255), 0), false);
        valid(newView(1, votes(v[1], 255, v[3]), 0), false);
        valid(newView(1, votes(255, v[2], v[3]), 0), false);
        valid(newView(1, -1, 0), false);
        valid(newView(1, 0, 0), false);
        valid(newView(1, MIN, 0), false);
        valid(newView(1, MAX, 0), false);

        begin("VALID NEW-VIEW: the number 0 is a vote's too");
        x.corrupt(3);
        check.due("forge", change(1, 0, 0), 0);
        x.submit(0, 1, 2, 7);
        take(1, 1);
        take(2, 1);
        int one = expire(1);
        int two = expire(2);
        valid(newView(1, votes(0, one, two), 0), true);
        valid(newView(1, votes(one, 0, two), 0), true);
        valid(newView(1, votes(one, two, 0), 0), true);
        valid(newView(1, votes(one, two, 1), 0), false);
    }

    private void newVotesOfHighNumbers() {
        begin("VALID NEW-VIEW: the greatest numbers that a board has");
        x.submit(0, 1, 2, 7);
        x.corrupt(0);
        for (int r = 1; r < 4; r++) {
            take(r, 0);
        }
        fill(127);
        int zero = change(1, 0, 0);
        check.due("number", zero, 127);
        int one = expire(1);
        int two = expire(2);
        int three = expire(3);
        valid(newView(1, votes(zero, one, two), 0), true);
        valid(newView(1, votes(one, zero, two), 0), true);
        valid(newView(1, votes(one, two, zero), 0), true);
        valid(newView(1, votes(one, two, three), 0), true);
        take(2, zero, one);
        take(1, two, three);
        message(newViewOf(1), NEW_VIEW, 0, 1, votes(zero, one, two), 0);
        message(find(NEW_VIEW, 1, 1, votes(one, two, three)), NEW_VIEW, 1, 1, votes(one, two, three), 0);
        fill(149);
        valid(newView(1, votes(three, one, two), 0), true);
    }

    private void newVotesBelow() {
        begin("VALID NEW-VIEW: VIEW-CHANGEs below m");
        x.submit(0, 1, 2, 7);
        x.corrupt(1);
        take(2, 0);
        take(3, 0);
        int one = change(1, 0, 0);
        int two = expire(2);
        int itself = newView(1, votes(one, two, two + 1), 0);
        int above = newView(1, votes(one, two, itself + 2), 0);
        int three = expire(3);
        check.due("number", three, itself + 2);
        int right = newView(1, votes(one, two, three), 0);
        valid(itself, false);
        valid(above, false);
        valid(right, true);
        refuse(2, itself, above);
        take(2, right);
    }

    private void newVotesOfThree() {
        begin("VALID NEW-VIEW: of three different replicas");
        int[] v = vote();
        int again = change(1, 0, 0);
        valid(newView(1, votes(v[0], again, v[2]), 0), false);
        valid(newView(1, votes(v[2], v[0], again), 0), false);
        valid(newView(1, votes(v[0], v[2], again), 0), false);
        valid(newView(1, votes(v[2], v[2], v[3]), 0), false);
        valid(newView(1, votes(v[2], v[2], v[2]), 0), false);
        // In any order, and without the primary's own one.
        valid(newView(1, votes(v[1], v[2], v[3]), 0), true);
        valid(newView(1, votes(v[3], v[2], v[1]), 0), true);
        valid(newView(1, votes(v[0], v[2], v[3]), 0), true);
        valid(newView(1, votes(v[2], again, v[3]), 0), true);
    }

    private void newVotesThatAreValid() {
        begin("VALID NEW-VIEW: valid VIEW-CHANGEs");
        int[] v = vote();
        int[] wrong = {change(1, 2, 0), change(1, 0, 1), change(1, 0, 1 << 20), x.forge(PREPARE, 1, 0, 0),
            x.forge(NEW_VIEW, 1, votes(v[1], v[2], v[3]), 0), 0};
        for (int m : wrong) {
            valid(newView(1, votes(m, v[2], v[3]), 0), false);
            valid(newView(1, votes(v[2], m, v[3]), 0), false);
            valid(newView(1, votes(v[2], v[3], m), 0), false);
        }
        valid(newView(1, votes(v[0], v[2], v[3]), 0), true);
    }

    private void newVotesForTheView() {
        begin("VALID NEW-VIEW: VIEW-CHANGEs for that view");
        int[] v = vote();
        int second = change(2, 0, 0);
        int two = expire(2);
        int three = expire(3);
        valid(newView(1, votes(second, v[2], v[3]), 0), false);
        valid(newView(1, votes(v[0], two, v[3]), 0), false);
        valid(newView(1, votes(v[0], v[2], three), 0), false);
        valid(newView(2, votes(v[0], two, three), 0), false);
        valid(newView(2, votes(second, two, three), 0), true);
        valid(newView(1, votes(second, two, three), 0), false);
        valid(newView(1, votes(v[0], v[2], v[3]), 0), true);
    }

    private void newOrdersToTheBit() {
        begin("VALID NEW-VIEW: its orders are those due");
        prepareInTwoViews();
        int opened = newViewOf(1);
        int votes = (int) x.look(opened, 3);
        valid(opened, true);
        check.due("orders", x.look(opened, 4), 2);
        valid(newView(1, votes, 2), true);
        for (int bit = 0; bit <= 31; bit++) {
            valid(newView(1, votes, 2 ^ (1 << bit)), false);
        }
        valid(newView(1, votes, 0), false);
    }

    // Field c is an int, so the fourth order has its sign bit: set from request 126 on, since the order is 128 then.
    private void newOrdersOfHighRequests() {
        for (int request = 125; request <= 126; request++) {
            begin("VALID NEW-VIEW: bits 24 to 31 of the orders, request " + request);
            x.corrupt(0);
            fill(request);
            check.due("number", x.submit(0, 1, 2, 7), request);
            int prePrepare = x.forge(PRE_PREPARE, 0, 4, request);
            take(1, prePrepare);
            take(2, prePrepare, find(PREPARE, 1, 0, 4));
            take(3, request);
            for (int r = 1; r < 4; r++) {
                expire(r);
            }
            take(1, find(VIEW_CHANGE, 2, 1, 0), find(VIEW_CHANGE, 3, 1, 0));
            int opened = newViewOf(1);
            int due = request == 125 ? 0x7f010101 : 0x80010101;
            check.due("orders", x.look(opened, 4), due);
            valid(opened, true);
            valid(newView(1, (int) x.look(opened, 3), due), true);
            valid(newView(1, (int) x.look(opened, 3), due ^ MIN), false);
            take(3, opened);
            for (int r = 1; r <= 3; r += 2) {
                check.due("ordered(" + r + ", 3)", x.ordered(r, 3), -1);
                check.due("ordered(" + r + ", 4)", x.ordered(r, 4), request);
            }
        }
    }

    // Replicas 1, 2, 3 know a last request and change to view 1, which replica 1 opens; the NEW-VIEW's number.
    private int openByAll(int checkpointOfTwo) {
        int request = x.submit(0, 1, 0, 9);
        for (int r = 1; r < 4; r++) {
            take(r, request);
            expire(r);
        }
        take(1, find(VIEW_CHANGE, 2, 1, checkpointOfTwo), find(VIEW_CHANGE, 3, 1, 0));
        int opened = newViewOf(1);
        valid(opened, true);
        return opened;
    }

    private void newOrdersOfTheWindow() {
        begin("VALID NEW-VIEW: four orders from START 0");
        submitTwo(false);
        submitTwo(false);
        int third = x.ordered(2, 3);
        int fourth = x.ordered(2, 4);
        int opened = openByAll(0);
        check.due("orders", x.look(opened, 4),
                2 + 256 * 3 + 65536 * (third + 2) + 16777216 * (fourth + 2));

        begin("VALID NEW-VIEW: none behind the last claim");
        submitTwo(false);
        check.due("orders", x.look(openByAll(0), 4), 2 + 256 * 3);

        begin("VALID NEW-VIEW: none without a claim");
        check.due("orders", x.look(openByAll(0), 4), 0);
    }

    private void newOrdersFromTheStart() {
        begin("VALID NEW-VIEW: START is the greatest checkpoint, 2");
        submitTwo(false);
        submitTwo(false);
        int third = x.ordered(2, 3);
        int fourth = x.ordered(2, 4);
        take(1, checkpoint(0, 2), checkpoint(2, 2));
        int opened = openByAll(0);
        check.due("orders", x.look(opened, 4), third + 2 + 256 * (fourth + 2));

        begin("VALID NEW-VIEW: START is the greatest checkpoint, 4, whoever says it");
        submitTwo(false);
        submitTwo(false);
        take(1, checkpoint(0, 2), checkpoint(2, 2));
        take(2, checkpoint(0, 4), checkpoint(1, 4));
        opened = openByAll(4);
        check.due("orders", x.look(opened, 4), 0);
        check.due("stable(1)", x.stable(1), 4);

        begin("VALID NEW-VIEW: START is the greatest checkpoint, wherever that vote stands");
        submitTwo(false);
        submitTwo(false);
        third = x.ordered(2, 3);
        fourth = x.ordered(2, 4);
        take(1, checkpoint(0, 2), checkpoint(2, 2));
        int one = voteOf(1, 2);
        int two = voteOf(2, 0);
        int three = voteOf(3, 0);
        x.corrupt(0);
        int due = third + 2 + 256 * (fourth + 2);
        int[] orders = {votes(one, two, three), votes(two, one, three), votes(two, three, one)};
        for (int votes : orders) {
            valid(newView(1, votes, due), true);
            valid(newView(1, votes, 2 + 256 * 3 + 65536 * (third + 2)), false);
        }
    }

    // Replica r comes to know a request that waits, and changes to view 1 by it; its VIEW-CHANGE has that checkpoint.
    private int voteOf(int r, int checkpoint) {
        if (x.outstanding(0) == 0) {
            x.submit(0, 1, 0, 9);
        }
        take(r, find(REQUEST, 4, x.outstanding(0), 1));
        int m = expire(r);
        check.due("checkpoint", x.look(m, 3), checkpoint);
        return m;
    }

    // Replica 1 has settled at 2 and claims nothing; replica 2 has settled nowhere and claims 1, 2 and 3.
    private void newOrdersByALowerCheckpoint() {
        begin("VALID NEW-VIEW: a claim for n of a vote with a lower checkpoint");
        submitTwo(false);
        take(1, checkpoint(0, 2), checkpoint(2, 2));
        int third = x.submit(1, 1, 0, 9);
        take(0, third);
        int prePrepare = last();
        take(1, prePrepare);
        take(2, prePrepare, find(PREPARE, 1, 0, 3));
        int opened = openByAll(0);
        message(find(VIEW_CHANGE, 1, 1, 2), VIEW_CHANGE, 1, 1, 2, 0);
        message(find(VIEW_CHANGE, 2, 1, 0), VIEW_CHANGE, 2, 1, 0, 1 + (1 << 5) + (1 << 10));
        check.due("orders", x.look(opened, 4), third + 2);
        check.due("ordered(1, 3)", x.ordered(1, 3), third);
    }

    private void newOrdersBeforeAClaim() {
        for (int n = 1; n <= 4; n++) {
            begin("VALID NEW-VIEW: the empty request before a claim for " + n + ", none behind it");
            x.submit(0, 1, 2, 7);
            x.corrupt(0);
            int prePrepare = x.forge(PRE_PREPARE, 0, n, 0);
            take(1, prePrepare);
            take(2, prePrepare, find(PREPARE, 1, 0, n));
            take(3, 0);
            for (int r = 1; r < 4; r++) {
                expire(r);
            }
            take(1, find(VIEW_CHANGE, 2, 1, 0), find(VIEW_CHANGE, 3, 1, 0));
            int due = 2 << (8 * (n - 1));
            for (int before = 1; before < n; before++) {
                due += 1 << (8 * (before - 1));
            }
            int opened = newViewOf(1);
            check.due("orders", x.look(opened, 4), due);
            valid(opened, true);
            for (int at = 1; at <= 4; at++) {
                check.due("ordered(1, " + at + ")", x.ordered(1, at), at < n ? -1 : at == n ? 0 : -2);
            }
        }

        begin("VALID NEW-VIEW: a claim of the empty request");
        x.submit(0, 1, 2, 7);
        x.corrupt(0);
        int prePrepare = x.forge(PRE_PREPARE, 0, 2, -1);
        take(1, prePrepare);
        take(2, prePrepare, find(PREPARE, 1, 0, 2));
        for (int r = 1; r < 4; r++) {
            take(r, 0);
            expire(r);
        }
        take(1, find(VIEW_CHANGE, 2, 1, 0), find(VIEW_CHANGE, 3, 1, 0));
        check.due("orders", x.look(newViewOf(1), 4), 1 + 256);
        valid(newViewOf(1), true);
    }

    // Request 0 is prepared at 1 in view 0, request 1 in view 1; replica 2 knows the one, replica 3 the other.
    private void newOrdersByTheGreatestView() {
        begin("VALID NEW-VIEW: the claim with the greatest view");
        x.submit(0, 1, 0, 5);
        x.submit(1, 1, 1, 6);
        x.corrupt(0);
        int first = x.forge(PRE_PREPARE, 0, 1, 0);
        take(3, first);
        take(2, first, find(PREPARE, 3, 0, 1));
        take(1, 1);
        int one = expire(1);
        int three = expire(3);
        int zero = change(1, 0, 0);
        take(1, zero, three);
        message(newViewOf(1), NEW_VIEW, 1, 1, votes(zero, one, three), 0);
        take(3, newViewOf(1), find(PRE_PREPARE, 1, 1, 1), x.forge(PREPARE, 1, 1, 1));
        int later = expire(3);
        message(later, VIEW_CHANGE, 3, 2, 0, 2);
        expire(2);
        int earlier = expire(2);
        message(earlier, VIEW_CHANGE, 2, 2, 0, 1);
        int none = change(2, 0, 0);
        valid(newView(2, votes(none, earlier, later), 3), true);
        valid(newView(2, votes(later, earlier, none), 3), true);
        valid(newView(2, votes(none, earlier, later), 2), false);
        expire(1);
        // Without the later one the earlier one gives the order.
        int other = find(VIEW_CHANGE, 1, 2, 0);
        valid(newView(2, votes(none, other, earlier), 2), true);
        valid(newView(2, votes(none, other, earlier), 3), false);
    }
}
