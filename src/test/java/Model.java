import java.util.ArrayList;
import java.util.List;
import java.util.TreeSet;

/** The document told once more, with lists and objects in place of numbers, to be compared with the program. */
final class Model {
    static final int BAD = -1, BLOCKED = -2, STALE = -3, DENIED = -4, DEADLOCK = -5, NOTHING = -6, FULL = -7;
    private static final int ANY = -1;

    private enum State { NONE, READY, SENDING, RECEIVING, AWAITING }

    private static final class Letter {
        Process from;
        int value;
    }

    private static final class Grant {
        int to;
        boolean passed;
        int first, length, how;
        int granter, number;
    }

    private static final class Process {
        int slot, endpoint, base, priority, ticks = 4, mask;
        State state = State.READY;
        Process partner;
        boolean calls;
        int sent;
        int result;
        int alarmAt;
        int gotSource, gotSort, gotValue;
        int[] memory = new int[16];
        Grant[] grants = new Grant[4];
        List<Process> queue = new ArrayList<>();
        List<Letter> letters = new ArrayList<>();
        // Sources as they are ordered: slots, then 100 the clock, then 101 + k.
        TreeSet<Integer> notes = new TreeSet<>();
        TreeSet<Integer> watches = new TreeSet<>();
    }

    private static final class Service {
        int base, life, pause = 1, due, begun, born, heard;
        Process process;
    }

    private final Process[] slots = new Process[10];
    private final int[] before = new int[10];
    private final Service[] services = new Service[3];
    private final List<List<Process>> rows = new ArrayList<>();
    private int time, ended, copied;
    private final int[] got = new int[3];

    Model() {
        for (int row = 0; row < 4; row++) {
            rows.add(new ArrayList<>());
        }
    }

    private Process run() {
        for (List<Process> row : rows) {
            if (!row.isEmpty()) {
                return row.get(0);
            }
        }
        return null;
    }

    private Process by(int endpoint) {
        for (Process p : slots) {
            if (p != null && p.endpoint == endpoint) {
                return p;
            }
        }
        return null;
    }

    private void ready(Process p) {
        p.state = State.READY;
        p.partner = null;
        rows.get(p.priority).add(p);
    }

    private void waits(Process p, State how, Process whom) {
        rows.get(p.priority).remove(p);
        p.state = how;
        p.partner = whom;
        p.result = 0;
    }

    private void moveTo(Process p, int row) {
        if (p.state == State.READY) {
            rows.get(p.priority).remove(p);
            rows.get(row).add(p);
        }
        p.priority = row;
    }

    private Process begin(int base, int mask) {
        for (int slot = 0; slot < 10; slot++) {
            if (slots[slot] == null) {
                Process p = new Process();
                p.slot = slot;
                p.endpoint = 16 * before[slot]++ + slot;
                p.base = base;
                p.priority = base;
                p.mask = mask;
                slots[slot] = p;
                ready(p);
                return p;
            }
        }
        return null;
    }

    int birth(int base, int mask) {
        if (base < 0 || base > 3 || mask < 0 || mask > 1023) {
            return BAD;
        }
        Process p = begin(base, mask);
        return p == null ? FULL : p.endpoint;
    }

    private void finish(Process p) {
        slots[p.slot] = null;
        ended++;
        rows.get(p.priority).remove(p);
        for (Process other : slots) {
            if (other != null) {
                other.queue.remove(p);
                other.notes.remove(p.slot);
                other.letters.removeIf(letter -> letter.from == p);
            }
        }
        for (Process other : slots) {
            if (other != null && other.partner == p) {
                ready(other);
                other.result = STALE;
            }
        }
        for (Service s : services) {
            if (s != null && s.process == p) {
                s.process = null;
                s.pause = time - s.born >= 16 ? 1 : s.pause;
                s.due = time + s.pause;
                s.pause = Math.min(8, 2 * s.pause);
            }
        }
    }

    boolean end(int slot) {
        if (slot < 0 || slot > 9 || slots[slot] == null) {
            return false;
        }
        finish(slots[slot]);
        return true;
    }

    int leave() {
        Process p = run();
        if (p == null) {
            return BAD;
        }
        finish(p);
        return p.endpoint;
    }

    private int look(int endpoint) {
        return by(endpoint) == null ? STALE : by(endpoint) == run() ? BAD : 0;
    }

    private int lookMasked(int endpoint) {
        if (run() == null) {
            return BAD;
        }
        int refused = look(endpoint);
        return refused != 0 ? refused : (run().mask & 1 << by(endpoint).slot) == 0 ? DENIED : 0;
    }

    private boolean takes(Process p, Process source, int sort) {
        if (p.state == State.RECEIVING) {
            return p.partner == null || p.partner == source;
        }
        return p.state == State.AWAITING && p.partner == source && sort == 0;
    }

    private void get(Process p, int source, int sort, int value) {
        p.gotSource = source;
        p.gotSort = sort;
        p.gotValue = value;
        got[sort]++;
    }

    private boolean stuckBehind(Process p, Process behind) {
        for (Process q = p.partner; q != null; q = q.partner) {
            if (q == behind) {
                return true;
            }
        }
        return false;
    }

    int send(int to, int x) {
        return hand(to, x, false);
    }

    int call(int to, int x) {
        return hand(to, x, true);
    }

    private int hand(int to, int x, boolean calls) {
        int refused = lookMasked(to);
        if (refused != 0) {
            return refused;
        }
        Process me = run();
        Process p = by(to);
        if (takes(p, me, 0)) {
            get(p, me.endpoint, 0, x);
            ready(p);
            if (calls) {
                waits(me, State.AWAITING, p);
            }
            return calls ? BLOCKED : 0;
        }
        if (stuckBehind(p, me)) {
            return DEADLOCK;
        }
        me.sent = x;
        me.calls = calls;
        p.queue.add(me);
        waits(me, State.SENDING, p);
        return BLOCKED;
    }

    int receive(int from, boolean wait) {
        Process me = run();
        if (me == null) {
            return BAD;
        }
        if (from != ANY && look(from) != 0) {
            return look(from);
        }
        Process only = by(from);
        for (int source : me.notes) {
            if (only == null || only.slot == source) {
                me.notes.remove(source);
                get(me, source < 10 ? slots[source].endpoint : 98 - source, 1, 0);
                return 1;
            }
        }
        for (Letter letter : me.letters) {
            if (only == null || only == letter.from) {
                me.letters.remove(letter);
                get(me, letter.from.endpoint, 2, letter.value);
                return 2;
            }
        }
        for (Process sender : me.queue) {
            if (only == null || only == sender) {
                me.queue.remove(sender);
                get(me, sender.endpoint, 0, sender.sent);
                if (sender.calls) {
                    sender.state = State.AWAITING;
                } else {
                    ready(sender);
                }
                return 0;
            }
        }
        if (!wait) {
            return NOTHING;
        }
        if (only != null && stuckBehind(only, me)) {
            return DEADLOCK;
        }
        waits(me, State.RECEIVING, only);
        return BLOCKED;
    }

    private void bring(Process p, Process source, int place) {
        if (takes(p, source, 1)) {
            get(p, source != null ? source.endpoint : 98 - place, 1, 0);
            ready(p);
        } else {
            p.notes.add(place);
        }
    }

    int note(int to) {
        int refused = lookMasked(to);
        if (refused == 0) {
            bring(by(to), run(), run().slot);
        }
        return refused;
    }

    private int notGot(Process p) {
        int count = 0;
        for (Process other : slots) {
            if (other != null) {
                for (Letter letter : other.letters) {
                    count += letter.from == p ? 1 : 0;
                }
            }
        }
        return count;
    }

    int post(int to, int x) {
        int refused = lookMasked(to);
        if (refused != 0) {
            return refused;
        }
        Process me = run();
        Process p = by(to);
        if (notGot(me) == 3) {
            return FULL;
        }
        if (takes(p, me, 2)) {
            get(p, me.endpoint, 2, x);
            ready(p);
        } else {
            Letter letter = new Letter();
            letter.from = me;
            letter.value = x;
            p.letters.add(letter);
        }
        return 0;
    }

    int lend(int id, int to, int first, int length, int how) {
        Process me = run();
        if (me == null || id < 0 || id > 3 || first < 0 || length < 1 || (long) first + length > 16 || how < 1 || how > 3) {
            return BAD;
        }
        if (to != ANY && look(to) != 0) {
            return look(to);
        }
        Grant g = new Grant();
        g.to = to;
        g.first = first;
        g.length = length;
        g.how = how;
        me.grants[id] = g;
        return 0;
    }

    int pass(int id, int to, int granter, int grant) {
        Process me = run();
        if (me == null || id < 0 || id > 3 || grant < 0 || grant > 3) {
            return BAD;
        }
        if (to != ANY && look(to) != 0) {
            return look(to);
        }
        if (look(granter) != 0) {
            return look(granter);
        }
        Grant g = new Grant();
        g.to = to;
        g.passed = true;
        g.granter = granter;
        g.number = grant;
        me.grants[id] = g;
        return 0;
    }

    int revoke(int id) {
        Process me = run();
        if (me == null || id < 0 || id > 3) {
            return BAD;
        }
        boolean none = me.grants[id] == null;
        me.grants[id] = null;
        return none ? NOTHING : 0;
    }

    int copy(int granter, int grant, int offset, int at, int n, boolean write) {
        Process me = run();
        if (me == null || grant < 0 || grant > 3 || n < 1 || n > 16 || at < 0 || (long) at + n > 16) {
            return BAD;
        }
        if (look(granter) != 0) {
            return look(granter);
        }
        int reader = me.endpoint;
        Process giver = by(granter);
        Grant g = giver.grants[grant];
        for (int seen = 1; ; seen++) {
            if (g == null || g.to != ANY && g.to != reader) {
                return DENIED;
            }
            if (!g.passed) {
                break;
            }
            if (seen == 4) {
                return DENIED;
            }
            reader = giver.endpoint;
            giver = by(g.granter);
            if (giver == null) {
                return STALE;
            }
            g = giver.grants[g.number];
        }
        if (offset < 0 || (long) offset + n > g.length || (g.how & (write ? 2 : 1)) == 0) {
            return DENIED;
        }
        int theirs = g.first + offset;
        int[] words = new int[n];
        System.arraycopy(write ? me.memory : giver.memory, write ? at : theirs, words, 0, n);
        System.arraycopy(words, 0, write ? giver.memory : me.memory, write ? theirs : at, n);
        copied += n;
        return 0;
    }

    int alarm(int n) {
        Process me = run();
        if (me == null || n < 0 || n > 100) {
            return BAD;
        }
        int left = me.alarmAt == 0 ? 0 : me.alarmAt - time;
        me.alarmAt = n == 0 ? 0 : time + n;
        return left;
    }

    int beat() {
        if (run() == null) {
            return BAD;
        }
        for (int k = 0; k < 3; k++) {
            if (services[k] != null && services[k].process == run()) {
                services[k].heard = time;
                return k;
            }
        }
        return NOTHING;
    }

    int watch(int k) {
        if (run() == null || k < 0 || k > 2) {
            return BAD;
        }
        run().watches.add(k);
        return 0;
    }

    int serve(int k, int base, int life) {
        if (k < 0 || k > 2 || base < 0 || base > 3 || life < 2 || life > 50) {
            return BAD;
        }
        if (services[k] != null) {
            return FULL;
        }
        services[k] = new Service();
        services[k].base = base;
        services[k].life = life;
        services[k].due = time + 1;
        return 0;
    }

    boolean close(int k) {
        if (k < 0 || k > 2 || services[k] == null) {
            return false;
        }
        services[k] = null;
        return true;
    }

    int tick(int n) {
        if (n < 1 || n > 100) {
            return BAD;
        }
        int begun = 0;
        for (int i = 0; i < n; i++) {
            time++;
            Process me = run();
            if (me != null && --me.ticks == 0) {
                me.ticks = 4;
                moveTo(me, Math.min(3, me.priority + 1));
            }
            for (Process p : slots) {
                if (time % 8 == 0 && p != null && p.priority > p.base) {
                    moveTo(p, p.priority - 1);
                }
            }
            for (Process p : slots) {
                if (p != null && p.alarmAt == time) {
                    p.alarmAt = 0;
                    bring(p, null, 100);
                }
            }
            for (int k = 0; k < 3; k++) {
                begun += services[k] == null ? 0 : step(k, services[k]);
            }
        }
        return begun;
    }

    private int step(int k, Service s) {
        if (s.process != null && s.heard <= time - s.life) {
            finish(s.process);
        }
        if (s.process != null || s.due > time) {
            return 0;
        }
        s.process = begin(s.base, 1023);
        if (s.process == null) {
            return 0;
        }
        s.born = time;
        s.heard = time;
        s.begun++;
        for (Process p : slots) {
            if (p != null && p.watches.contains(k)) {
                bring(p, null, 101 + k);
            }
        }
        return 1;
    }

    boolean poke(int slot, int a, int value) {
        if (slot < 0 || slot > 9 || slots[slot] == null || a < 0 || a > 15) {
            return false;
        }
        slots[slot].memory[a] = value;
        return true;
    }

    int memory(int slot, int a) {
        return slot < 0 || slot > 9 || slots[slot] == null || a < 0 || a > 15 ? 0 : slots[slot].memory[a];
    }

    int running() {
        return run() == null ? NOTHING : run().endpoint;
    }

    int at(int slot, int what) {
        if (slot < 0 || slot > 9 || slots[slot] == null) {
            return BAD;
        }
        Process p = slots[slot];
        int whom = p.partner != null ? p.partner.endpoint : p.state == State.READY ? p.endpoint : ANY;
        int[] all = {p.endpoint, p.state.ordinal(), whom, p.priority, p.ticks, p.queue.size(), p.notes.size(),
            p.letters.size(), notGot(p), rows.get(p.priority).indexOf(p), p.gotSource, p.gotSort, p.gotValue, p.result,
            p.alarmAt == 0 ? 0 : p.alarmAt - time};
        return what < 0 || what >= all.length ? BAD : all[what];
    }

    int service(int k, int what) {
        if (k < 0 || k > 2 || what < 0 || what > 3) {
            return BAD;
        }
        Service s = services[k];
        if (s == null) {
            return what == 0 ? 0 : BAD;
        }
        int[] all = {s.process == null ? 2 : 1, s.process == null ? -1 : s.process.endpoint, s.pause, s.begun};
        return all[what];
    }

    int total(int what) {
        int processes = 0;
        for (Process p : slots) {
            processes += p != null ? 1 : 0;
        }
        int[] all = {time, processes, got[0], got[1], got[2], ended, copied};
        return what < 0 || what >= all.length ? BAD : all[what];
    }
}
