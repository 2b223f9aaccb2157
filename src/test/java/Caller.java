/** The program's face as the tests call it: each call goes through change() or look(). */
abstract class Caller {
    /** A call on the program; a boolean counts 1 or 0. */
    interface Call {
        long on(ThreePhaseGroup group);
    }

    /** A call that may change something, and the answer by which it says that it was refused. */
    abstract long change(String what, long refusal, Call call);

    /** A call that changes nothing. */
    abstract long look(Call call);

    int submit(int client, int op, int key, int value) {
        String what = "submit(" + client + ", " + op + ", " + key + ", " + value + ")";
        return (int) change(what, -1, g -> g.submit(client, op, key, value));
    }

    boolean deliver(int m, int party) {
        return change("deliver(" + m + ", " + party + ")", 0, g -> g.deliver(m, party) ? 1 : 0) == 1;
    }

    int pump(int party, int n) {
        return (int) change("pump(" + party + ", " + n + ")", -1, g -> g.pump(party, n));
    }

    boolean tick(int r) {
        return change("tick(" + r + ")", 0, g -> g.tick(r) ? 1 : 0) == 1;
    }

    boolean corrupt(int r) {
        return change("corrupt(" + r + ")", 0, g -> g.corrupt(r) ? 1 : 0) == 1;
    }

    int forge(int kind, int a, int b, int c) {
        String what = "forge(" + kind + ", " + a + ", " + b + ", " + c + ")";
        return (int) change(what, -1, g -> g.forge(kind, a, b, c));
    }

    int forgeCheckpoint(int n, long state) {
        return (int) change("forgeCheckpoint(" + n + ", " + state + ")", -1, g -> g.forgeCheckpoint(n, state));
    }

    int messages() {
        return (int) look(g -> g.messages());
    }

    long look(int m, int k) {
        return look(g -> g.look(m, k));
    }

    int mark(int party) {
        return (int) look(g -> g.mark(party));
    }

    int view(int r) {
        return (int) look(g -> g.view(r));
    }

    int executed(int r) {
        return (int) look(g -> g.executed(r));
    }

    int stable(int r) {
        return (int) look(g -> g.stable(r));
    }

    long state(int r) {
        return look(g -> g.state(r));
    }

    int slot(int r, int n) {
        return (int) look(g -> g.slot(r, n));
    }

    int ordered(int r, int n) {
        return (int) look(g -> g.ordered(r, n));
    }

    int timer(int r) {
        return (int) look(g -> g.timer(r));
    }

    int waiting(int r) {
        return (int) look(g -> g.waiting(r));
    }

    int outstanding(int client) {
        return (int) look(g -> g.outstanding(client));
    }

    int answer(int client) {
        return (int) look(g -> g.answer(client));
    }
}
