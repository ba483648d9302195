/** Long runs of calls, always the same ones, on the program and on the model: all that can be seen is the same. */
public final class ModelTest {
    private static final int RUNS = 1600, CALLS = 500;
    private static final String[] NAMES = {"birth", "end", "leave", "send", "call", "receive", "note", "post", "lend",
        "pass", "revoke", "copy", "alarm", "beat", "watch", "serve", "close", "tick", "poke"};
    // How often each call is made in the kinds of runs: of all, messages, grants, time and services.
    private static final int[][] WEIGHTS = {
        {8, 2, 2, 8, 8, 12, 6, 8, 6, 6, 2, 12, 4, 4, 3, 2, 1, 6, 3},
        {10, 1, 1, 14, 14, 24, 8, 12, 1, 1, 1, 2, 2, 1, 1, 1, 1, 2, 1},
        {10, 2, 1, 2, 2, 8, 6, 2, 14, 20, 3, 30, 1, 1, 1, 1, 1, 1, 6},
        {5, 3, 3, 3, 3, 12, 5, 3, 1, 1, 1, 1, 10, 10, 8, 8, 2, 25, 1}};

    private static long seed;

    public static void main(String[] args) {
        int[] answered = new int[NAMES.length];
        for (int run = 0; run < RUNS; run++) {
            seed = 7919L * run + 17;
            if (!sameRun(run, answered)) {
                break;
            }
        }
        for (int name = 0; name < NAMES.length; name++) {
            Due.due(NAMES[name] + " was called often and not refused", answered[name] > 1000, true);
        }
        Due.close("ModelTest");
    }

    private static int next(int bound) {
        seed = seed * 6364136223846793005L + 1442695040888963407L;
        return (int) ((seed >>> 33) % bound);
    }

    /** Mostly a number from least to most, now and then one beside them or far away. */
    private static int number(int least, int most) {
        int kind = next(60);
        if (kind == 0) {
            return least - 1;
        }
        if (kind == 1) {
            return most + 1;
        }
        if (kind == 2) {
            return next(2) == 0 ? Integer.MAX_VALUE : Integer.MIN_VALUE;
        }
        return least + next(most - least + 1);
    }

    /** Mostly the endpoint of a process that is there. */
    private static int endpoint(Model m) {
        for (int i = 0; i < 4; i++) {
            int there = m.at(next(10), 0);
            if (there >= 0 && there != m.running()) {
                return there;
            }
        }
        return number(-5, 40);
    }

    private static int endpointOrAny(Model m) {
        return next(3) == 0 ? -1 : endpoint(m);
    }

    private static boolean sameRun(int run, int[] answered) {
        ReviveKernel x = new ReviveKernel();
        Model m = new Model();
        int[] weights = WEIGHTS[run % WEIGHTS.length];
        int sum = 0;
        for (int weight : weights) {
            sum += weight;
        }
        for (int i = 0; i < CALLS; i++) {
            int left = next(sum);
            int name = 0;
            while (left >= weights[name]) {
                left -= weights[name];
                name++;
            }
            int[] got = new int[2];
            String call = NAMES[name] + both(name, x, m, got);
            if (got[1] >= 0 || got[1] == Model.BLOCKED) {
                answered[name]++;
            }
            if (got[0] != got[1]) {
                Due.due("run " + run + ", call " + i + ": " + call, got[0], got[1]);
                return false;
            }
            String other = difference(x, m);
            if (other != null) {
                Due.due("run " + run + ", after call " + i + ": " + call + ": " + other + " is the same", false, true);
                return false;
            }
        }
        return true;
    }

    private static String both(int name, ReviveKernel x, Model m, int[] got) {
        switch (name) {
            case 0: return ofBirth(x, m, got);
            case 1: return ofEnd(x, m, got);
            case 2: return set(got, x.leave(), m.leave());
            case 3: case 4: return ofMessage(name == 4, x, m, got);
            case 5: return ofReceive(x, m, got);
            case 6: return ofNote(x, m, got);
            case 7: return ofPost(x, m, got);
            case 8: return ofLend(x, m, got);
            case 9: return ofPass(x, m, got);
            case 10: return ofRevoke(x, m, got);
            case 11: return ofCopy(x, m, got);
            case 12: return ofAlarm(x, m, got);
            case 13: return set(got, x.beat(), m.beat());
            case 14: return ofWatch(x, m, got);
            case 15: return ofServe(x, m, got);
            case 16: return ofClose(x, m, got);
            case 17: return ofTick(x, m, got);
            default: return ofPoke(x, m, got);
        }
    }

    private static String set(int[] got, int one, int other, int... numbers) {
        got[0] = one;
        got[1] = other;
        return java.util.Arrays.toString(numbers);
    }

    private static int asNumber(boolean b) {
        return b ? 1 : 0;
    }

    private static String ofBirth(ReviveKernel x, Model m, int[] got) {
        int base = number(0, 3);
        int mask = next(3) == 0 ? number(0, 1023) : 1023;
        return set(got, x.birth(base, mask), m.birth(base, mask), base, mask);
    }

    private static String ofEnd(ReviveKernel x, Model m, int[] got) {
        int slot = number(0, 9);
        return set(got, asNumber(x.end(slot)), asNumber(m.end(slot)), slot);
    }

    private static String ofMessage(boolean calls, ReviveKernel x, Model m, int[] got) {
        int to = endpoint(m);
        int value = next(1000);
        return calls ? set(got, x.call(to, value), m.call(to, value), to, value)
            : set(got, x.send(to, value), m.send(to, value), to, value);
    }

    private static String ofReceive(ReviveKernel x, Model m, int[] got) {
        int from = endpointOrAny(m);
        boolean wait = next(4) != 0;
        return set(got, x.receive(from, wait), m.receive(from, wait), from, asNumber(wait));
    }

    private static String ofNote(ReviveKernel x, Model m, int[] got) {
        int to = endpoint(m);
        return set(got, x.note(to), m.note(to), to);
    }

    private static String ofPost(ReviveKernel x, Model m, int[] got) {
        int to = endpoint(m);
        int value = next(1000);
        return set(got, x.post(to, value), m.post(to, value), to, value);
    }

    private static String ofLend(ReviveKernel x, Model m, int[] got) {
        int id = number(0, 3);
        int to = endpointOrAny(m);
        int first = next(2) == 0 ? 0 : number(0, 15);
        int length = next(2) == 0 ? 16 - first : number(1, 16);
        int how = number(1, 3);
        return set(got, x.lend(id, to, first, length, how), m.lend(id, to, first, length, how), id, to, first, length, how);
    }

    private static String ofPass(ReviveKernel x, Model m, int[] got) {
        int id = number(0, 3);
        int to = endpointOrAny(m);
        int granter = endpoint(m);
        int grant = number(0, 3);
        return set(got, x.pass(id, to, granter, grant), m.pass(id, to, granter, grant), id, to, granter, grant);
    }

    private static String ofRevoke(ReviveKernel x, Model m, int[] got) {
        int id = number(0, 3);
        return set(got, x.revoke(id), m.revoke(id), id);
    }

    private static String ofCopy(ReviveKernel x, Model m, int[] got) {
        int granter = endpoint(m);
        int grant = number(0, 3);
        int offset = next(2) == 0 ? 0 : number(0, 8);
        int n = next(2) == 0 ? number(1, 4) : number(1, 16);
        int at = number(0, 12);
        boolean write = next(2) == 0;
        return set(got, x.copy(granter, grant, offset, at, n, write), m.copy(granter, grant, offset, at, n, write),
            granter, grant, offset, at, n, asNumber(write));
    }

    private static String ofAlarm(ReviveKernel x, Model m, int[] got) {
        int n = next(4) == 0 ? number(0, 100) : number(0, 6);
        return set(got, x.alarm(n), m.alarm(n), n);
    }

    private static String ofWatch(ReviveKernel x, Model m, int[] got) {
        int k = number(0, 2);
        return set(got, x.watch(k), m.watch(k), k);
    }

    private static String ofServe(ReviveKernel x, Model m, int[] got) {
        int k = number(0, 2);
        int base = number(0, 3);
        int life = next(3) == 0 ? number(2, 50) : number(2, 8);
        return set(got, x.serve(k, base, life), m.serve(k, base, life), k, base, life);
    }

    private static String ofClose(ReviveKernel x, Model m, int[] got) {
        int k = number(0, 2);
        return set(got, asNumber(x.close(k)), asNumber(m.close(k)), k);
    }

    private static String ofTick(ReviveKernel x, Model m, int[] got) {
        int n = next(20) == 0 ? number(1, 100) : number(1, 3);
        return set(got, x.tick(n), m.tick(n), n);
    }

    private static String ofPoke(ReviveKernel x, Model m, int[] got) {
        int slot = number(0, 9);
        int a = number(0, 15);
        int value = next(1000);
        return set(got, asNumber(x.poke(slot, a, value)), asNumber(m.poke(slot, a, value)), slot, a, value);
    }

    /** What is seen differently, or null. */
    private static String difference(ReviveKernel x, Model m) {
        if (x.running() != m.running()) {
            return "running()";
        }
        for (int what = -1; what < 8; what++) {
            if (x.total(what) != m.total(what)) {
                return "total(" + what + ")";
            }
        }
        for (int k = -1; k < 4; k++) {
            for (int what = -1; what < 5; what++) {
                if (x.service(k, what) != m.service(k, what)) {
                    return "service(" + k + ", " + what + ")";
                }
            }
        }
        for (int slot = -1; slot < 11; slot++) {
            for (int what = -1; what < 17; what++) {
                if (x.at(slot, what) != m.at(slot, what)) {
                    return "at(" + slot + ", " + what + ")";
                }
                if (x.memory(slot, what) != m.memory(slot, what)) {
                    return "memory(" + slot + ", " + what + ")";
                }
            }
        }
        return null;
    }
}
