/**
 * The program's face for a test that plays a scene. Each call that is refused, and each message that is not taken,
 * must change nothing: all that can be seen stays, and the scene goes on as it does beside it without those calls.
 */
final class Watched extends Caller {
    private static final int LAST_ROUNDS = 12;

    private final Check check;
    private final Renewed whole = new Renewed();
    private final Renewed spared = new Renewed();

    Watched(Check check) {
        this.check = check;
    }

    @Override
    long change(String what, long refusal, Call call) {
        long answer = whole.change(what, refusal, call);
        if (answer == refusal) {
            check.due("refused, " + what + " leaves all as it was", whole.picture().equals(spared.picture()), true);
        } else {
            check.due(what + " without the refused calls before it", spared.change(what, refusal, call), answer);
        }
        return answer;
    }

    @Override
    long look(Call call) {
        return whole.look(call);
    }

    /** What a refused call left behind unseen shows in what comes after it. */
    void close() {
        for (int round = 0; round < LAST_ROUNDS; round++) {
            for (int party = 0; party < 6 && hasRoom(); party++) {
                pump(party, 8);
            }
        }
        for (int i = 0; i < 32 && hasRoom(); i++) {
            check.due("tick(" + i % 4 + ") at the end", whole.tick(i % 4), spared.tick(i % 4));
        }
        check.due("the refused calls left something behind", whole.picture().equals(spared.picture()), true);
    }

    private boolean hasRoom() {
        return whole.changes() < Renewed.LIMIT - 1;
    }
}
