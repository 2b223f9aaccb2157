import java.util.ArrayList;
import java.util.List;
import java.util.Random;

/**
 * Long runs of chosen-by-seed calls on the program and on SlowGroup side by side: after each call what can be seen
 * must be the same. The argument, if there is one, is the number of runs.
 */
public final class ModelTest {
    private static final int CALLS = 500;
    // Between these calls only the replica that was called is looked at.
    private static final int FULL_LOOK = 16;

    private final Check check = new Check();
    private final Random random;
    private final Renewed x = new Renewed();
    private final SlowGroup model = new SlowGroup();
    private int looked = 0;
    private int touched = -1;
    // How wild a run is: the share of ticks, forgeries and single deliveries differs from run to run.
    private int tickShare;
    private int forgeShare;
    private int deliverShare;
    private int corruptAt;
    private int sleeper;
    // In some runs one replica is ticked on and on, up to the last view; -1 in the others.
    private int ticked;

    private ModelTest(int seed) {
        random = new Random(seed * 0x9E3779B97F4A7C15L);
    }

    public static void main(String[] args) {
        int runs = args.length > 0 ? Integer.parseInt(args[0]) : 400;
        int wrong = 0;
        int[] seen = new int[8];
        for (int seed = 0; seed < runs && wrong == 0; seed++) {
            ModelTest test = new ModelTest(seed);
            wrong += test.run(seed);
            test.count(seen);
        }
        System.out.println(runs + " runs; replicas beyond view 0: " + seen[0] + ", in view 15: " + seen[1]
                + ", settled: " + seen[2] + ", NEW-VIEWs valid: " + seen[3] + ", with orders: " + seen[4]
                + ", with a start: " + seen[5] + ", boards full: " + seen[6] + ", longest board: " + seen[7]);
        for (int i = 0; i < 7; i++) {
            if (seen[i] == 0) {
                System.out.println("the runs never came to what is counted at place " + i);
                wrong++;
            }
        }
        System.out.println(wrong == 0 ? "all answers are as due" : "answers are not as due");
        if (wrong != 0) {
            System.exit(1);
        }
    }

    private int run(int seed) {
        tickShare = random.nextInt(4) == 0 ? 0 : random.nextInt(30);
        forgeShare = random.nextInt(20);
        deliverShare = random.nextInt(40);
        corruptAt = random.nextInt(3) == 0 ? CALLS : random.nextInt(100);
        sleeper = random.nextInt(8);
        ticked = random.nextInt(16) == 0 ? random.nextInt(4) : -1;
        for (int i = 0; i < CALLS && check.wrong() == 0; i++) {
            check.part("run " + seed + ", call " + i);
            touched = -1;
            call(i);
            compare(i % FULL_LOOK == FULL_LOOK - 1 || i == CALLS - 1);
        }
        return check.wrong();
    }

    private void count(int[] seen) {
        for (int r = 0; r < 4; r++) {
            seen[0] += model.view(r) % 16 > 0 ? 1 : 0;
            seen[1] += model.view(r) % 16 == 15 ? 1 : 0;
            seen[2] += model.stable(r) > 0 ? 1 : 0;
        }
        for (int m = 0; m < model.messages(); m++) {
            if (model.look(m, 0) == 6 && model.look(m, 5) == 1) {
                seen[3]++;
                seen[4] += model.look(m, 4) != 0 ? 1 : 0;
                seen[5] += model.start((int) model.look(m, 3)) > 0 ? 1 : 0;
            }
        }
        seen[6] += model.full() ? 1 : 0;
        seen[7] = Math.max(seen[7], model.messages());
    }

    private int any(int from, int to) {
        return from + random.nextInt(to - from + 1);
    }

    private boolean chance(int percent) {
        return random.nextInt(100) < percent;
    }

    private void call(int i) {
        if (i == corruptAt || chance(1) && i > corruptAt) {
            int r = any(-1, 4);
            check.due("corrupt(" + r + ")", x.corrupt(r), model.corrupt(r));
        } else if (ticked >= 0 && i > 20 && chance(94)) {
            tick(ticked);
        } else if (chance(tickShare)) {
            tick(any(0, 3));
        } else if (chance(1)) {
            tick(any(-1, 4));
        } else if (chance(forgeShare)) {
            forge();
        } else if (chance(deliverShare)) {
            int m = chance(60) ? any(model.messages() - 12, model.messages()) : any(-1, model.messages());
            int party = chance(5) ? any(-1, 6) : any(0, 5);
            touched = party;
            check.due("deliver(" + m + ", " + party + ")", x.deliver(m, party), model.deliver(m, party));
        } else if (chance(20)) {
            submit();
        } else {
            pump(i);
        }
    }

    private void tick(int r) {
        touched = r;
        check.due("tick(" + r + ")", x.tick(r), model.tick(r));
    }

    private void submit() {
        boolean wild = chance(10);
        int client = wild ? any(-1, 2) : any(0, 1);
        int op = wild ? any(-1, 3) : any(0, 2);
        int key = wild ? any(-1, 4) : any(0, 3);
        int value = wild ? any(-1, 16) : any(0, 15);
        check.due("submit(" + client + ", " + op + ", " + key + ", " + value + ")",
                x.submit(client, op, key, value), model.submit(client, op, key, value));
    }

    private void pump(int i) {
        boolean wild = chance(3);
        int party = wild ? any(-1, 6) : any(0, 5);
        int n = wild ? any(-1, 9) : any(1, 8);
        // A replica that sleeps for a while has to be brought forward by checkpoints and new views.
        if (party == sleeper && i < 350) {
            party = (party + 1) % 4;
        }
        touched = party;
        check.due("pump(" + party + ", " + n + ")", x.pump(party, n), model.pump(party, n));
    }

    private void forge() {
        if (chance(20)) {
            forgeCheckpoint();
            return;
        }
        int kind = chance(4) ? any(-1, 8) : any(1, 6);
        int r = any(0, 3);
        int a = model.view(r) % 16;
        int b = model.stable(r) + any(chance(10) ? -1 : 1, chance(10) ? 6 : 4);
        int c = anyRequest();
        if (kind == 4) {
            a = any(0, 1);
            b = chance(80) ? model.outstanding(a) : any(0, 3);
            c = any(0, 3);
        } else if (kind == 5) {
            a = chance(10) ? any(-1, 16) : a + any(0, 2);
            b = model.stable(r);
            c = anyClaims(r);
        } else if (kind == 6) {
            a = chance(50) ? a : a + 1;
            b = anyVotes(a);
            c = anyOrders(b);
        } else if (chance(5)) {
            a = random.nextInt();
        } else if (chance(5)) {
            b = random.nextInt();
        }
        check.due("forge(" + kind + ", " + a + ", " + b + ", " + c + ")",
                x.forge(kind, a, b, c), model.forge(kind, a, b, c));
    }

    private void forgeCheckpoint() {
        int r = any(0, 3);
        int n = model.executed(r) + any(-1, chance(20) ? 8 : 1);
        long state = chance(50) ? model.state(r) : random.nextLong();
        for (int m = 0; m < model.messages() && chance(60); m++) {
            if (model.look(m, 0) == 7) {
                n = (int) model.look(m, 2);
                state = model.look(m, 3);
            }
        }
        check.due("forgeCheckpoint(" + n + ", " + state + ")",
                x.forgeCheckpoint(n, state), model.forgeCheckpoint(n, state));
    }

    private int anyRequest() {
        List<Integer> requests = new ArrayList<>();
        requests.add(-1);
        for (int m = 0; m < model.messages(); m++) {
            if (model.look(m, 0) == 0) {
                requests.add(m);
            }
        }
        if (chance(5)) {
            return any(-3, model.messages() + 1);
        }
        return requests.get(Math.max(0, requests.size() - any(1, 4)));
    }

    private int anyClaims(int r) {
        int claims = 0;
        for (int j = 0; j < 4; j++) {
            int cert = model.slot(r, model.stable(r) + 1 + j) / 1024;
            claims |= (chance(80) ? cert : chance(50) ? 0 : any(0, 31)) << (5 * j);
        }
        return chance(5) ? claims | 1 << any(20, 31) : claims;
    }

    private int anyVotes(int view) {
        List<Integer> votes = new ArrayList<>();
        for (int m = 0; m < model.messages(); m++) {
            if (model.look(m, 0) == 5 && (model.look(m, 2) == view || chance(5))) {
                votes.add(m);
            }
        }
        if (votes.isEmpty()) {
            return chance(50) ? random.nextInt() : 0;
        }
        int sum = 0;
        for (int i = 0; i < 3; i++) {
            sum += votes.get(random.nextInt(votes.size())) << (8 * i);
        }
        return chance(3) ? sum | 1 << any(24, 31) : sum;
    }

    private int anyOrders(int votes) {
        for (int i = 0; i < 3; i++) {
            int vote = (votes >>> (8 * i)) & 255;
            if (votes < 0 || votes >>> 24 != 0 || vote >= model.messages() || !model.validViewChange(vote)) {
                return chance(50) ? 0 : random.nextInt();
            }
        }
        int due = model.due(votes);
        return chance(80) ? due : due ^ 1 << any(0, 31);
    }

    private void compare(boolean full) {
        check.due("messages()", x.messages(), model.messages());
        for (; looked < model.messages(); looked++) {
            for (int k = -1; k <= 6; k++) {
                check.due("look(" + looked + ", " + k + ")", x.look(looked, k), model.look(looked, k));
            }
        }
        check.due("look(" + looked + ", 0)", x.look(looked, 0), -1);
        check.due("mark(" + touched + ")", x.mark(touched), model.mark(touched));
        compareReplica(touched);
        if (full) {
            compareAll();
        }
    }

    private void compareAll() {
        for (int party = -1; party <= 6; party++) {
            check.due("mark(" + party + ")", x.mark(party), model.mark(party));
        }
        for (int client = -1; client <= 2; client++) {
            check.due("outstanding(" + client + ")", x.outstanding(client), model.outstanding(client));
            check.due("answer(" + client + ")", x.answer(client), model.answer(client));
        }
        for (int r = -1; r <= 4; r++) {
            compareReplica(r);
        }
        compareCorrect();
    }

    private void compareReplica(int r) {
        check.due("view(" + r + ")", x.view(r), model.view(r));
        check.due("executed(" + r + ")", x.executed(r), model.executed(r));
        check.due("stable(" + r + ")", x.stable(r), model.stable(r));
        check.due("state(" + r + ")", x.state(r), model.state(r));
        check.due("timer(" + r + ")", x.timer(r), model.timer(r));
        check.due("waiting(" + r + ")", x.waiting(r), model.waiting(r));
        int h = model.stable(r);
        for (int n = h - 1; n <= h + 6; n++) {
            check.due("slot(" + r + ", " + n + ")", x.slot(r, n), model.slot(r, n));
            check.due("ordered(" + r + ", " + n + ")", x.ordered(r, n), model.ordered(r, n));
        }
    }

    // What the three phases are for: correct replicas that executed equally many have the same state.
    private void compareCorrect() {
        for (int r = 0; r < 4; r++) {
            for (int other = 0; other < r; other++) {
                if (r != model.faulty && other != model.faulty && model.executed(r) == model.executed(other)) {
                    check.due("state(" + r + ") beside state(" + other + ")", x.state(r), x.state(other));
                }
            }
        }
    }
}
