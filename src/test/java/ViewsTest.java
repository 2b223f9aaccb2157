/** Timers, changes of view, and what is valid in them. */
public final class ViewsTest extends Scene {
    public static void main(String[] args) {
        ViewsTest test = new ViewsTest();
        test.changesWithoutClaims();
        test.joinsAChange();
        test.joinsTheLeastView();
        test.carriesAClaimOver();
        test.fillsAGap();
        test.takesTheGreatestClaim();
        test.entersFromAnOldView();
        test.takesViewChanges();
        test.judgesViewChanges();
        test.judgesNewViews();
        test.doublesTheSpan();
        test.stopsInTheLastView();
        test.end();
    }

    private void changesWithoutClaims() {
        begin("a change without claims");
        x.submit(0, 1, 0, 5);
        take(1, 0);
        take(2, 0);
        take(3, 0);
        check.due("VIEW-CHANGE of 3", expire(3), 1);
        check.due("VIEW-CHANGE of 1", expire(1), 2);
        check.due("VIEW-CHANGE of 2", expire(2), 3);
        message(1, 5, 3, 1, 0, 0);
        valid(1, true);
        take(1, 1);
        check.due("view(1) with two votes", x.view(1), 17);
        take(1, 3);
        // The votes stand in the order of their senders: 1, 2, 3.
        message(4, 6, 1, 1, 2 + 256 * 3 + 65536, 0);
        valid(4, true);
        message(5, 1, 1, 1, 1, 0);
        check.due("view(1)", x.view(1), 1);
        check.due("timer(1)", x.timer(1), 8);
        check.due("messages()", x.messages(), 6);
        refuse(2, 5);
        take(2, 4, 5);
        refuse(2, 4);
        message(6, 2, 2, 1, 1, 0);
        check.due("view(2)", x.view(2), 1);
        check.due("timer(2)", x.timer(2), 8);
        refuse(1, 4);
        take(3, 4, 5);
        take(1, 6, 7);
        check.due("slot(1, 1)", x.slot(1, 1), 1 + 2 + 16 + 64 + 2048);
        flood(0, 1, 2, 3, 4);
        check.due("executed(2)", x.executed(2), 1);
        check.due("answer(0)", x.answer(0), 0);
        check.due("timer(2)", x.timer(2), 0);
        check.due("state(2)", x.state(2), 5 + (1L << 16));
        // The executed request has made the span short again.
        x.submit(1, 0, 0, 0);
        take(3, x.messages() - 1);
        check.due("timer(3)", x.timer(3), 4);
    }

    private void joinsAChange() {
        begin("two others ahead");
        x.submit(0, 1, 0, 5);
        take(1, 0);
        take(2, 0);
        expire(1);
        expire(2);
        take(0, 1);
        check.due("view(0) with one ahead", x.view(0), 0);
        check.due("timer(0)", x.timer(0), 0);
        take(0, 2);
        check.due("view(0)", x.view(0), 17);
        check.due("timer(0), though none waits", x.timer(0), 8);
        message(3, 5, 0, 1, 0, 0);
        refuse(0, 1, 2);
        // The primary of the view joins and opens the view at once.
        take(1, 2, 3);
        check.due("view(1)", x.view(1), 1);
        message(4, 6, 1, 1, 3 + 256 + 65536 * 2, 0);
        take(0, 4);
        check.due("view(0)", x.view(0), 1);
        check.due("timer(0), as none waits", x.timer(0), 0);
    }

    private void joinsTheLeastView() {
        begin("the least of the views ahead");
        x.submit(0, 1, 0, 5);
        x.corrupt(3);
        take(1, 0);
        take(2, 0);
        int far = x.forge(5, 9, 0, 0);
        valid(far, true);
        take(0, far);
        check.due("view(0)", x.view(0), 0);
        int near = expire(1);
        take(0, near);
        check.due("view(0)", x.view(0), 17);
        int middle = expire(2);
        take(0, middle);
        check.due("view(0), as the other one is not ahead", x.view(0), 17);
        int second = expire(2);
        message(second, 5, 2, 2, 0, 0);
        take(0, second);
        check.due("view(0)", x.view(0), 18);
        check.due("timer(0)", x.timer(0), 16);
    }

    // Replicas 1 and 2 prepare request 0 in view 0, and replica 1 alone comes to know of both.
    private void prepareFirst() {
        x.submit(0, 1, 0, 5);
        take(0, 0);
        take(1, 1);
        take(2, 1);
        take(1, 3);
        message(4, 3, 1, 0, 1, 0);
        take(3, 0);
    }

    private void carriesAClaimOver() {
        begin("a claim is carried over");
        prepareFirst();
        int one = expire(1);
        message(one, 5, 1, 1, 0, 1);
        valid(one, true);
        check.due("slot(1, 1) keeps CERT", x.slot(1, 1), 1024);
        check.due("ordered(1, 1)", x.ordered(1, 1), -2);
        refuse(1, 1, 2);
        int two = expire(2);
        message(two, 5, 2, 1, 0, 0);
        int three = expire(3);
        take(1, two, three);
        int newView = three + 1;
        message(newView, 6, 1, 1, one + 256 * two + 65536 * three, 2);
        valid(newView, true);
        check.due("ordered(1, 1)", x.ordered(1, 1), 0);
        check.due("messages(), as the request is ordered", x.messages(), newView + 1);
        check.due("slot(1, 1)", x.slot(1, 1), 1 + 1024);
        take(3, newView);
        message(newView + 1, 2, 3, 1, 1, 0);
        check.due("slot(3, 1)", x.slot(3, 1), 9);
        flood(0, 1, 2, 3, 4);
        check.due("executed(3)", x.executed(3), 1);
        check.due("slot(1, 1)", x.slot(1, 1) / 1024, 2);
    }

    private void fillsAGap() {
        begin("a gap is filled with the empty request");
        x.submit(0, 1, 0, 5);
        x.submit(1, 1, 1, 6);
        take(0, 0, 1);
        take(1, 3);
        take(2, 3);
        take(1, 5);
        int one = expire(1);
        message(one, 5, 1, 1, 0, 32);
        int two = expire(2);
        take(3, 0);
        int three = expire(3);
        take(1, two, three);
        int newView = three + 1;
        message(newView, 6, 1, 1, one + 256 * two + 65536 * three, 1 + 256 * 3);
        valid(newView, true);
        check.due("ordered(1, 1)", x.ordered(1, 1), -1);
        check.due("ordered(1, 2)", x.ordered(1, 2), 1);
        check.due("ordered(1, 3)", x.ordered(1, 3), -2);
        take(2, newView);
        message(newView + 1, 2, 2, 1, 1, -1);
        message(newView + 2, 2, 2, 1, 2, 1);
        take(3, newView);
        check.due("waiting(3) has learnt request 1 by the orders", x.waiting(3), 2);
        take(1, newView + 1, newView + 3);
        check.due("slot(1, 1)", x.slot(1, 1), 1 + 2 + 16 + 64 + 2048);
        take(2, newView + 3, newView + 5);
        take(3, newView + 1, newView + 5, newView + 6);
        check.due("executed(3), the empty one", x.executed(3), 1);
        check.due("state(3)", x.state(3), 0);
        check.due("timer(3), as it executed none that waited", x.timer(3), 8);
        int before = x.messages();
        check.due("look, no reply", x.look(before - 1, 0), 3);
        flood(1, 2, 3, 4, 5);
        // Request 0 follows as number 3 of the new view.
        check.due("executed(3)", x.executed(3), 3);
        check.due("state(3)", x.state(3), 5 + (6 << 4) + (1L << 16) + (1L << 28));
        check.due("stable(3)", x.stable(3), 2);
    }

    private void takesTheGreatestClaim() {
        begin("the claim with the greatest view");
        x.submit(0, 1, 0, 5);
        x.submit(1, 1, 1, 6);
        x.corrupt(0);
        // View 0: request 0 is backed at number 1, and replica 2 knows it.
        int first = x.forge(1, 0, 1, 0);
        take(2, first);
        take(3, first);
        take(2, first + 2);
        check.due("slot(2, 1)", x.slot(2, 1) / 1024, 1);
        // View 1: opened by the votes 0, 1 and 3 without a claim, by a primary that knows request 1 alone.
        take(1, 1);
        int one = expire(1);
        int three = expire(3);
        int zero = x.forge(5, 1, 0, 0);
        take(1, zero, three);
        int newView = zero + 1;
        message(newView, 6, 1, 1, zero + 256 * one + 65536 * three, 0);
        message(newView + 1, 1, 1, 1, 1, 1);
        take(3, newView, newView + 1);
        message(newView + 2, 2, 3, 1, 1, 1);
        take(3, x.forge(2, 1, 1, 1));
        check.due("slot(3, 1)", x.slot(3, 1) / 1024, 2);
        // View 2: replica 2 claims view 0, replica 3 view 1; the request of view 1 is taken.
        int claimOfThree = expire(3);
        message(claimOfThree, 5, 3, 2, 0, 2);
        valid(claimOfThree, true);
        expire(2);
        int claimOfTwo = expire(2);
        message(claimOfTwo, 5, 2, 2, 0, 1);
        valid(claimOfTwo, true);
        int empty = x.forge(5, 2, 0, 0);
        take(2, claimOfThree, empty);
        message(empty + 1, 6, 2, 2, empty + 256 * claimOfTwo + 65536 * claimOfThree, 3);
        valid(empty + 1, true);
        check.due("view(2)", x.view(2), 2);
        check.due("ordered(2, 1)", x.ordered(2, 1), 1);
        check.due("slot(2, 1) keeps the old CERT", x.slot(2, 1), 1 + 1024);
        message(empty + 2, 1, 2, 2, 2, 0);
        int otherOrder = claimOfThree + 256 * claimOfTwo + 65536 * empty;
        valid(x.forge(6, 2, otherOrder, 3), true);
        valid(x.forge(6, 2, otherOrder, 2), false);
    }

    private void entersFromAnOldView() {
        begin("a NEW-VIEW comes to one that did not change");
        prepareFirst();
        int one = expire(1);
        int two = expire(2);
        int three = expire(3);
        take(1, two, three);
        int newView = three + 1;
        check.due("slot(0, 1)", x.slot(0, 1), 1);
        check.due("timer(0)", x.timer(0), 4);
        x.tick(0);
        check.due("timer(0)", x.timer(0), 3);
        take(0, newView);
        check.due("view(0)", x.view(0), 1);
        check.due("timer(0) anew, with its own span", x.timer(0), 4);
        message(newView + 1, 2, 0, 1, 1, 0);
        refuse(0, one, two, three, newView);
        check.due("waiting(0)", x.waiting(0), 1);
    }

    private void takesViewChanges() {
        begin("which VIEW-CHANGEs are taken");
        x.corrupt(3);
        int five = x.forge(5, 5, 0, 0);
        int four = x.forge(5, 4, 0, 0);
        int again = x.forge(5, 5, 0, 0);
        int six = x.forge(5, 6, 0, 0);
        int wrong = x.forge(5, 7, 2, 0);
        take(0, five);
        refuse(0, five, four, again, wrong);
        take(0, six);
        refuse(0, five, six);
        check.due("view(0)", x.view(0), 0);
        refuse(3, five);
        refuse(4, five);
        x.submit(0, 1, 0, 1);
        take(1, 5);
        int own = expire(1);
        refuse(1, own);
        int same = x.forge(5, 1, 0, 0);
        take(1, same, four);
        check.due("view(1)", x.view(1), 17);
        refuse(2, x.forge(5, 0, 0, 0));
    }

    private void judgesViewChanges() {
        begin("valid VIEW-CHANGEs");
        prepareFirst();
        x.corrupt(3);
        int[][] right = {{1, 0, 0}, {15, 0, 0}, {1, 0, 1}, {15, 0, 1}};
        for (int[] f : right) {
            valid(x.forge(5, f[0], f[1], f[2]), true);
        }
        int[][] wrong = {{0, 0, 0}, {16, 0, 0}, {-1, 0, 0}, {1, 2, 0}, {1, -1, 0}, {1, 1, 0},
            {1, 0, 1 << 20}, {1, 0, 1 << 31}, {1, 0, 1 + (1 << 25)}, {1, 0, 2}, {2, 0, 2}, {1, 0, 32},
            {1, 0, 1 + 32}, {1, 0, 1 << 10}, {1, 0, 1 << 15}, {15, 0, 31}, {15, 0, 16}};
        for (int[] f : wrong) {
            valid(x.forge(5, f[0], f[1], f[2]), false);
        }

        begin("a claim needs two that are not the primary");
        x.submit(0, 1, 0, 5);
        x.corrupt(0);
        int prePrepare = x.forge(1, 0, 1, 0);
        take(1, prePrepare);
        int early = x.forge(5, 1, 0, 1);
        x.forge(2, 0, 1, 0);
        int stillEarly = x.forge(5, 1, 0, 1);
        take(2, prePrepare);
        int late = x.forge(5, 1, 0, 1);
        valid(early, false);
        valid(stillEarly, false);
        valid(late, true);

        begin("a claim backed by the first message of all");
        x.corrupt(3);
        check.due("forge", x.forge(2, 0, 1, 1), 0);
        x.submit(0, 1, 0, 5);
        take(0, 1);
        valid(x.forge(5, 1, 0, 1), false);
        take(1, 2);
        valid(x.forge(5, 1, 0, 1), true);

        begin("a claim needs two that name one request");
        x.submit(0, 1, 0, 5);
        take(0, 0);
        take(1, 1);
        x.corrupt(3);
        x.forge(2, 0, 1, -1);
        valid(x.forge(5, 1, 0, 1), false);
        x.forge(2, 0, 2, 0);
        x.forge(2, 1, 1, 0);
        valid(x.forge(5, 1, 0, 1), false);
        x.forge(2, 0, 1, 0);
        valid(x.forge(5, 1, 0, 1), true);
    }

    private void judgesNewViews() {
        begin("valid NEW-VIEWs");
        prepareFirst();
        x.corrupt(0);
        int one = expire(1);
        int two = expire(2);
        int three = expire(3);
        int zero = x.forge(5, 1, 0, 0);
        int other = x.forge(5, 1, 0, 1);
        int later = x.forge(5, 2, 0, 0);
        int votes = one + 256 * two + 65536 * three;
        valid(x.forge(6, 1, votes, 2), true);
        valid(x.forge(6, 1, three + 256 * one + 65536 * two, 2), true);
        valid(x.forge(6, 1, zero + 256 * two + 65536 * three, 0), true);
        valid(x.forge(6, 1, other + 256 * two + 65536 * three, 2), true);
        int[][] wrong = {{1, votes, 0}, {1, votes, 3}, {1, votes, 2 + (1 << 31)}, {1, votes, 2 + 256}, {2, votes, 2},
            {0, votes, 2}, {16, votes, 2}, {1, votes + (1 << 24), 2}, {1, votes + (1 << 31), 2}, {1, votes - 1, 2},
            {1, zero + 256 * two + 65536 * three, 2}, {1, zero + 256 * other + 65536 * two, 2},
            {1, two + 256 * two + 65536 * three, 0}, {1, later + 256 * two + 65536 * three, 0},
            {1, 255 + 256 * two + 65536 * three, 0}, {1, 256 * two + 65536 * three, 0},
            {1, 1 + 256 * two + 65536 * three, 0}, {1, 0, 0}};
        for (int[] f : wrong) {
            valid(x.forge(6, f[0], f[1], f[2]), false);
        }
        // A valid one whose sender is not the primary of its view is not taken.
        int strange = x.forge(6, 1, votes, 2);
        valid(strange, true);
        refuse(2, strange);
        // And it is no vote itself.
        valid(x.forge(6, 1, strange + 256 * two + 65536 * three, 0), false);

        begin("a vote lies below the NEW-VIEW");
        x.corrupt(1);
        x.submit(0, 1, 0, 5);
        take(2, 0);
        take(3, 0);
        int mine = x.forge(5, 1, 0, 0);
        int second = expire(2);
        int soon = x.forge(6, 1, mine + 256 * second + 65536 * 4, 0);
        int third = expire(3);
        check.due("number", third, 4);
        int inTime = x.forge(6, 1, mine + 256 * second + 65536 * third, 0);
        valid(soon, false);
        valid(inTime, true);
        refuse(2, soon);
        take(2, inTime);
        check.due("view(2)", x.view(2), 1);
        take(0, inTime);
        check.due("view(0)", x.view(0), 1);
    }

    private void doublesTheSpan() {
        begin("the span");
        x.submit(0, 1, 0, 5);
        take(3, 0);
        int[] due = {8, 16, 32, 32, 32};
        for (int i = 0; i < due.length; i++) {
            expire(3);
            check.due("timer(3)", x.timer(3), due[i]);
            check.due("view(3)", x.view(3), 17 + i);
        }
    }

    private void stopsInTheLastView() {
        begin("view 15");
        x.submit(0, 1, 0, 5);
        take(3, 0);
        for (int v = 1; v <= 15; v++) {
            expire(3);
        }
        check.due("view(3)", x.view(3), 31);
        check.due("timer(3)", x.timer(3), 0);
        check.due("tick(3)", x.tick(3), false);
        x.submit(1, 1, 0, 5);
        take(3, x.messages() - 1);
        check.due("timer(3)", x.timer(3), 0);
    }
}
