/** Checkpoints, the window, and what a replica that lagged behind is brought to by them. */
public final class CheckpointsTest extends Scene {
    public static void main(String[] args) {
        CheckpointsTest test = new CheckpointsTest();
        test.settles();
        test.settlesOneThatLags();
        test.settlesAtTheGreatest();
        test.needsThreeOfOneState();
        test.holdsTheWindow();
        test.movesTheWindow();
        test.entersWithAStart();
        test.certifies(AFTER_TWO, true);
        test.certifies(AFTER_TWO + 1, false);
        test.executesAfterSettling();
        test.end();
    }

    private void settles() {
        begin("promise 14");
        submitTwo(false);
        for (int r = 0; r < 3; r++) {
            check.due("executed", x.executed(r), 2);
            check.due("stable", x.stable(r), 0);
            message(checkpoint(r, 2), 7, r, 2, AFTER_TWO, 0);
        }
        check.due("slot(0, 2)", x.slot(0, 2), 1 + 2 + 4 + 16 + 192 + 1024);
        take(0, checkpoint(1, 2));
        check.due("stable(0) with two", x.stable(0), 0);
        refuse(0, checkpoint(1, 2), checkpoint(0, 2));
        take(0, checkpoint(2, 2));
        check.due("stable(0) with three", x.stable(0), 2);
        check.due("executed(0)", x.executed(0), 2);
        check.due("state(0)", x.state(0), AFTER_TWO);
        check.due("slot(0, 2)", x.slot(0, 2), -1);
        check.due("ordered(0, 2)", x.ordered(0, 2), -2);
        check.due("slot(0, 3)", x.slot(0, 3), 0);
        check.due("slot(0, 5) shares nothing with number 1", x.slot(0, 5), 0);
        check.due("slot(0, 6)", x.slot(0, 6), 0);
        check.due("slot(0, 7)", x.slot(0, 7), -1);
        check.due("stable(1)", x.stable(1), 0);
    }

    private void settlesOneThatLags() {
        begin("a replica that lags takes the state");
        submitTwo(true);
        take(3, 0, 1);
        check.due("timer(3)", x.timer(3), 4);
        take(3, checkpoint(0, 2), checkpoint(1, 2), checkpoint(2, 2));
        check.due("executed(3)", x.executed(3), 2);
        check.due("stable(3)", x.stable(3), 2);
        check.due("state(3)", x.state(3), AFTER_TWO);
        check.due("waiting(3)", x.waiting(3), 0);
        check.due("timer(3)", x.timer(3), 0);
        int before = x.messages();
        refuse(3, 0, 1, 2);
        check.due("messages(): it sends no checkpoint of its own", x.messages(), before);
    }

    private void settlesAtTheGreatest() {
        begin("the greatest number with three");
        submitTwo(false);
        submitTwo(false);
        check.due("state(0)", x.state(0), AFTER_FOUR);
        // Number 4 has three, though number 2 has but two; 2 is past then.
        take(3, checkpoint(0, 2), checkpoint(1, 2), checkpoint(0, 4), checkpoint(1, 4));
        check.due("stable(3)", x.stable(3), 0);
        take(3, checkpoint(2, 4));
        check.due("stable(3)", x.stable(3), 4);
        check.due("executed(3)", x.executed(3), 4);
        check.due("state(3)", x.state(3), AFTER_FOUR);
        refuse(3, checkpoint(2, 2), checkpoint(2, 4));
        // One that is ahead keeps what it has executed.
        take(0, checkpoint(1, 2), checkpoint(2, 2));
        check.due("stable(0)", x.stable(0), 2);
        check.due("executed(0)", x.executed(0), 4);
        check.due("state(0)", x.state(0), AFTER_FOUR);
        check.due("slot(0, 3)", x.slot(0, 3), 1 + 2 + 4 + 16 + 192 + 1024);
        // One that passes its whole window at once keeps nothing of it.
        take(1, checkpoint(0, 4), checkpoint(2, 4));
        check.due("stable(1)", x.stable(1), 4);
        for (int n = 5; n <= 8; n++) {
            check.due("slot(1, " + n + ")", x.slot(1, n), 0);
        }
    }

    private void needsThreeOfOneState() {
        begin("three of one state");
        x.corrupt(3);
        submitTwo(false);
        int lie = x.forgeCheckpoint(2, AFTER_TWO + 1);
        int truth = x.forgeCheckpoint(2, AFTER_TWO);
        take(0, lie);
        refuse(0, truth);
        take(0, checkpoint(1, 2));
        check.due("stable(0)", x.stable(0), 0);
        take(0, checkpoint(2, 2));
        check.due("stable(0)", x.stable(0), 2);
        take(1, truth, checkpoint(0, 2));
        check.due("stable(1)", x.stable(1), 2);
        int far = x.forgeCheckpoint(1000, 7);
        take(2, far);
        refuse(2, far, x.forgeCheckpoint(1000, 8), x.forgeCheckpoint(1001, 8));
        check.due("stable(2)", x.stable(2), 0);
        // A certified checkpoint makes a VIEW-CHANGE from it valid, from the third one on.
        check.due("look", x.look(x.forge(5, 1, 2, 0), 5), 1);
        check.due("look", x.look(x.forge(5, 1, 1000, 0), 5), 0);
    }

    // Replica 3 says its checkpoint before all else; replicas 0 and 1 come to theirs with its help, 0 before 1.
    private void certifies(long forged, boolean right) {
        begin("certified with " + forged);
        x.corrupt(3);
        check.due("forgeCheckpoint", x.forgeCheckpoint(2, forged), 0);
        x.submit(0, 1, 0, 5);
        x.submit(1, 1, 1, 6);
        for (int n = 1; n <= 2; n++) {
            x.forge(2, 0, n, n);
            x.forge(3, 0, n, n);
        }
        x.pump(0, 3);
        x.pump(1, 8);
        x.pump(1, 8);
        x.pump(0, 8);
        x.pump(0, 8);
        check.due("executed(0)", x.executed(0), 2);
        check.due("executed(1)", x.executed(1), 0);
        check.due("look(.., 5) with two", x.look(x.forge(5, 1, 2, 0), 5), 0);
        x.pump(1, 8);
        check.due("executed(1)", x.executed(1), 2);
        check.due("look(.., 5) with three", x.look(x.forge(5, 1, 2, 0), 5), right ? 1 : 0);
        take(2, 0, checkpoint(0, 2), checkpoint(1, 2));
        check.due("stable(2)", x.stable(2), right ? 2 : 0);
        check.due("state(2)", x.state(2), right ? AFTER_TWO : 0);
    }

    private void executesAfterSettling() {
        begin("what was decided ahead is executed after settling");
        submitTwo(true);
        int request = x.messages();
        x.submit(0, 2, 0, 3);
        spread(true);
        check.due("executed(0)", x.executed(0), 3);
        for (int m = request; m < x.messages(); m++) {
            x.deliver(m, 3);
        }
        check.due("slot(3, 3)", x.slot(3, 3) & 4, 4);
        check.due("executed(3)", x.executed(3), 0);
        take(3, checkpoint(0, 2), checkpoint(1, 2), checkpoint(2, 2));
        check.due("stable(3)", x.stable(3), 2);
        check.due("executed(3)", x.executed(3), 3);
        check.due("state(3)", x.state(3), AFTER_TWO - (1L << 16) + 3 + (2L << 16) + (8L << 24));
        message(x.messages() - 1, 4, 3, 0, 2, 8);
    }

    private void holdsTheWindow() {
        begin("a full window");
        submitTwo(false);
        submitTwo(false);
        check.due("executed(0)", x.executed(0), 4);
        check.due("stable(0)", x.stable(0), 0);
        int before = x.messages();
        x.submit(0, 2, 0, 1);
        take(0, before);
        check.due("messages(): number 5 is not in the window", x.messages(), before + 1);
        check.due("waiting(0)", x.waiting(0), 1);
        check.due("timer(0)", x.timer(0), 4);
        take(0, checkpoint(1, 2));
        check.due("messages()", x.messages(), before + 1);
        take(0, checkpoint(2, 2));
        check.due("stable(0)", x.stable(0), 2);
        message(before + 1, 1, 0, 0, 5, before);
        check.due("slot(0, 5)", x.slot(0, 5), 1);
        check.due("slot(0, 4)", x.slot(0, 4), 1 + 2 + 4 + 16 + 192 + 1024);
        refuse(1, before + 1);
        take(1, checkpoint(0, 2), checkpoint(2, 2), before + 1);
        check.due("slot(1, 5)", x.slot(1, 5), 9);
        take(0, checkpoint(1, 4), checkpoint(2, 4));
        check.due("stable(0)", x.stable(0), 4);
        check.due("slot(0, 5) stays", x.slot(0, 5), 1);
        check.due("slot(0, 8)", x.slot(0, 8), 0);
    }

    private void movesTheWindow() {
        begin("many requests");
        for (int i = 0; i < 4; i++) {
            submitTwo(true);
        }
        for (int r = 0; r < 3; r++) {
            check.due("executed", x.executed(r), 8);
            check.due("stable", x.stable(r), 8);
        }
        check.due("slot(0, 8)", x.slot(0, 8), -1);
        check.due("slot(0, 9)", x.slot(0, 9), 0);
        check.due("slot(0, 12)", x.slot(0, 12), 0);
        check.due("answer(1)", x.answer(1), 6);
    }

    private void entersWithAStart() {
        begin("a NEW-VIEW with a start");
        submitTwo(true);
        int request = x.messages();
        x.submit(0, 2, 0, 3);
        take(1, request);
        take(2, request);
        take(3, request);
        for (int i = 0; i < 4; i++) {
            x.tick(1);
            x.tick(2);
        }
        int one = request + 1;
        int two = request + 2;
        message(one, 5, 1, 1, 2, 0);
        message(two, 5, 2, 1, 2, 0);
        // Replica 3 has seen nothing: its own VIEW-CHANGE starts from 0.
        take(3, one, two);
        int three = request + 3;
        message(three, 5, 3, 1, 0, 0);
        take(1, two, three);
        int newView = request + 4;
        message(newView, 6, 1, 1, one + 256 * two + 65536 * three, 0);
        check.due("look(.., 5)", x.look(newView, 5), 1);
        message(newView + 1, 1, 1, 1, 3, request);
        refuse(3, newView + 1);
        take(3, newView);
        check.due("view(3)", x.view(3), 1);
        check.due("stable(3)", x.stable(3), 2);
        check.due("executed(3)", x.executed(3), 2);
        check.due("state(3)", x.state(3), AFTER_TWO);
        check.due("timer(3)", x.timer(3), 8);
        take(3, newView + 1);
        message(newView + 2, 2, 3, 1, 3, request);
        check.due("slot(3, 3)", x.slot(3, 3), 9);
    }
}
