import java.util.ArrayList;
import java.util.List;

/**
 * Stands for one object in a test. The document speaks of an object's first 512 calls alone, and a test looks at far
 * more than that: an object that is used up gives way to a new one, which is first given all calls but the looks.
 */
final class Renewed extends Caller {
    static final int LIMIT = 512;

    private final List<Call> changes = new ArrayList<>();
    private ThreePhaseGroup now = new ThreePhaseGroup();
    private int used = 0;

    int changes() {
        return changes.size();
    }

    @Override
    long change(String what, long refusal, Call call) {
        long answer = look(call);
        changes.add(call);
        return answer;
    }

    @Override
    long look(Call call) {
        if (used >= LIMIT) {
            renew();
        }
        used++;
        return call.on(now);
    }

    private void renew() {
        if (changes.size() >= LIMIT) {
            throw new IllegalStateException("a run of more than " + LIMIT + " calls");
        }
        now = new ThreePhaseGroup();
        for (Call call : changes) {
            call.on(now);
        }
        used = changes.size();
    }

    /** Every answer that can be had without changing something. */
    List<Long> picture() {
        List<Long> seen = new ArrayList<>();
        int messages = messages();
        for (int m = 0; m < messages; m++) {
            for (int k = 0; k <= 5; k++) {
                seen.add(look(m, k));
            }
        }
        for (int party = 0; party < 6; party++) {
            seen.add((long) mark(party));
        }
        for (int client = 0; client < 2; client++) {
            seen.add((long) outstanding(client));
            seen.add((long) answer(client));
        }
        for (int r = 0; r < 4; r++) {
            addReplica(r, seen);
        }
        return seen;
    }

    private void addReplica(int r, List<Long> seen) {
        int h = stable(r);
        long[] all = {h, view(r), executed(r), state(r), timer(r), waiting(r)};
        for (long one : all) {
            seen.add(one);
        }
        for (int n = h; n <= h + 5; n++) {
            seen.add((long) slot(r, n));
            seen.add((long) ordered(r, n));
        }
    }
}
