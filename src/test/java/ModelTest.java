import java.util.NoSuchElementException;
import java.util.Random;

/** Long runs of calls, the same each time, on TalkNet and on PlainNet: after each call both tell the same. */
public final class ModelTest {
    private static final int RUNS = 400;
    // Behind the others: runs of one full group that seldom ticks, so that 4 wait and many are denied.
    private static final int CROWDED_RUNS = 200;
    private static final int CALLS = 512;

    private final Random random;
    private final TalkNet net = new TalkNet();
    private final PlainNet plain = new PlainNet();
    private final Check check;
    // How the run's dice are loaded, so that runs differ in more than their order.
    private final int groups;
    private final int members;
    private final int carrying;
    private final boolean crowded;

    private ModelTest(Check check, int seed) {
        this.check = check;
        random = new Random(seed);
        crowded = seed >= RUNS;
        groups = crowded ? 1 : 1 + random.nextInt(3);
        members = crowded ? 6 : 2 + random.nextInt(5);
        carrying = crowded ? 12 : 1 + random.nextInt(6);
    }

    public static void main(String[] args) {
        Check check = new Check();
        for (int seed = 0; seed < RUNS + CROWDED_RUNS; seed++) {
            ModelTest run = new ModelTest(check, seed);
            for (int call = 0; call < CALLS; call++) {
                check.part("run " + seed + ", call " + call);
                run.step();
                if (check.hasWrong()) {
                    check.end();
                }
            }
        }
        check.end();
    }

    private void step() {
        String call = oneCall();
        check.same("all after " + call, Check.all(net), plain.all());
    }

    private String oneCall() {
        int g = random.nextInt(20) == 0 ? random.nextInt(5) - 1 : random.nextInt(groups);
        int m = random.nextInt(40) == 0 ? random.nextInt(8) - 1 : random.nextInt(members);
        int dice = random.nextInt(20 + 2 * carrying);
        if (dice >= 20) {
            return carrying(random.nextInt(12));
        }
        if (crowded && dice >= 13 && random.nextInt(8) > 0) {
            dice = 5 + random.nextInt(6);
        }
        switch (dice) {
            case 0: return rules(g);
            case 1: case 2: case 3: return member(g, m);
            case 4: return random.nextInt(3) == 0 ? leave(g, m) : tick();
            case 5: case 6: case 7: case 8: return press(g, m);
            case 9: return again(g, m);
            case 10: return random.nextInt(2) == 0 ? release(g, m) : tick();
            case 11: case 12: case 13: case 14: case 15: case 16: return unit(g, holderOr(g, m));
            default: return tick();
        }
    }

    private int holderOr(int g, int m) {
        if (g < 0 || g > 2 || random.nextInt(4) == 0 || net.server(g, 1) < 0) {
            return m;
        }
        return net.server(g, 1);
    }

    private static boolean isMember(int g, int m) {
        return g >= 0 && g < 3 && m >= 0 && m < 6;
    }

    /** The exception that is due by the member's state, or null. */
    private Class<? extends RuntimeException> due(int g, int m, String states) {
        if (!isMember(g, m)) {
            return NoSuchElementException.class;
        }
        PlainNet.Person p = plain.teams[g].people[m];
        return p.there && states.contains("" + p.state) ? null : IllegalStateException.class;
    }

    private boolean refused(String call, Class<? extends RuntimeException> due, Runnable run) {
        if (due != null) {
            check.fails(net, call, due, run);
        }
        return due != null;
    }

    private String rules(int g) {
        boolean preempts = random.nextInt(3) > 0;
        int longest = random.nextInt(30);
        int idle = random.nextInt(15);
        int grace = random.nextInt(8) - 1;
        String call = "rules " + g + " " + preempts + " " + longest + " " + idle + " " + grace;
        Class<? extends RuntimeException> due = g < 0 || g > 2 ? NoSuchElementException.class
            : longest < 1 || idle < 1 || grace < 0 ? IllegalArgumentException.class : null;
        if (!refused(call, due, () -> net.rules(g, preempts, longest, idle, grace))) {
            net.rules(g, preempts, longest, idle, grace);
            plain.teams[g].preempts = preempts;
            plain.teams[g].longest = longest;
            plain.teams[g].idle = idle;
            plain.teams[g].grace = grace;
        }
        return call;
    }

    private String member(int g, int m) {
        int priority = random.nextInt(10) - 1;
        String call = "member " + g + " " + m + " " + priority;
        Class<? extends RuntimeException> due = !isMember(g, m) ? NoSuchElementException.class
            : priority < 0 || priority > 7 ? IllegalArgumentException.class : null;
        if (!refused(call, due, () -> net.member(g, m, priority))) {
            net.member(g, m, priority);
            plain.teams[g].people[m].there = true;
            plain.teams[g].people[m].priority = priority;
        }
        return call;
    }

    private String leave(int g, int m) {
        String call = "leave " + g + " " + m;
        if (!refused(call, isMember(g, m) ? null : NoSuchElementException.class, () -> net.leave(g, m))) {
            check.same(call, net.leave(g, m), plain.leave(g, m));
        }
        return call;
    }

    private String press(int g, int m) {
        boolean emergency = random.nextInt(3) == 0;
        String call = "press " + g + " " + m + " " + emergency;
        if (!refused(call, due(g, m, "0"), () -> net.press(g, m, emergency))) {
            check.same(call, net.press(g, m, emergency), plain.press(g, m, emergency));
        }
        return call;
    }

    private String again(int g, int m) {
        String call = "again " + g + " " + m;
        if (!refused(call, due(g, m, "12"), () -> net.again(g, m))) {
            net.again(g, m);
            plain.again(g, m);
        }
        return call;
    }

    private String release(int g, int m) {
        String call = "release " + g + " " + m;
        if (!refused(call, due(g, m, "1234"), () -> net.release(g, m))) {
            net.release(g, m);
            plain.release(g, m);
        }
        return call;
    }

    private String unit(int g, int m) {
        int value = random.nextInt();
        String call = "unit " + g + " " + m + " " + value;
        Class<? extends RuntimeException> due = due(g, m, "34");
        if (due == null && plain.teams[g].people[m].sent >= 64) {
            due = UnsupportedOperationException.class;
        }
        if (!refused(call, due, () -> net.unit(g, m, value))) {
            check.same(call, net.unit(g, m, value), plain.unit(g, m, value));
        }
        return call;
    }

    private String tick() {
        check.same("tick", net.tick(), plain.tick());
        return "tick";
    }

    private String carrying(int dice) {
        if (dice < 2) {
            int n = random.nextInt(20) == 0 ? 195 + random.nextInt(10) : random.nextInt(12) - 1;
            if (!refused("run " + n, n < 0 || n > 200 ? IllegalArgumentException.class : null, () -> net.run(n))) {
                check.same("run " + n, net.run(n), plain.run(n));
            }
            return "run " + n;
        }
        int size = plain.way.size();
        int k = random.nextInt(30) == 0 ? size : random.nextInt(30) == 0 ? -1 : random.nextInt(size + 1);
        Class<? extends RuntimeException> due = k < 0 || k >= size ? NoSuchElementException.class : null;
        if (dice < 4) {
            if (!refused("twice " + k, due, () -> net.twice(k))) {
                net.twice(k);
                plain.comes(plain.way.get(k));
            }
            return "twice " + k;
        }
        if (dice < 5) {
            if (!refused("drop " + k, due, () -> net.drop(k))) {
                net.drop(k);
                plain.way.remove(k);
            }
            return "drop " + k;
        }
        if (!refused("carry " + k, due, () -> net.carry(k))) {
            net.carry(k);
            plain.comes(plain.way.remove(k));
        }
        return "carry " + k;
    }
}
