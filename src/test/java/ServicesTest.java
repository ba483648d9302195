/** Promises 15 to 19 and 24 and what 26 says of them: beat, watch, serve, close, tick, service. */
public final class ServicesTest {
    private static final int BAD = ReviveKernel.BAD, NOTHING = ReviveKernel.NOTHING, FULL = ReviveKernel.FULL;
    private static final int BLOCKED = ReviveKernel.BLOCKED, STALE = ReviveKernel.STALE;
    private static final int ANY = -1;
    private static final int ABSENT = 0, THERE = 1, DOWN = 2;

    public static void main(String[] args) {
        wrongNumbers();
        servesAndBegins();
        beats();
        silentOnesEnd();
        beatsKeepAlive();
        pausesGrow();
        longPausesAreForgotten();
        steadyEdges();
        closes();
        noSlotIsFree();
        servicesInOrder();
        watchers();
        watchersBySlots();
        aServiceThatIsWaitedFor();
        Due.close("ServicesTest");
    }

    private static void wrongNumbers() {
        ReviveKernel x = new ReviveKernel();
        Due.due("beat of nobody", x.beat(), BAD);
        Due.due("watch of nobody", x.watch(0), BAD);
        int[][] wrong = {{-1, 0, 2}, {3, 0, 2}, {0, -1, 2}, {0, 4, 2}, {0, 0, 1}, {0, 0, 51}, {0, 0, -5}};
        for (int[] w : wrong) {
            Due.due("serve " + w[0] + ", " + w[1] + ", " + w[2], x.serve(w[0], w[1], w[2]), BAD);
        }
        for (int k = 0; k < 3; k++) {
            Due.due("none", x.service(k, 0), ABSENT);
            for (int what = 1; what <= 3; what++) {
                Due.due("of none", x.service(k, what), BAD);
            }
            Due.due("close none", x.close(k), false);
        }
        for (int k : new int[] {-1, 3, Integer.MAX_VALUE, Integer.MIN_VALUE}) {
            Due.due("close " + k, x.close(k), false);
            Due.due("service " + k, x.service(k, 0), BAD);
        }
        Due.due("least numbers", x.serve(1, 0, 2), 0);
        Due.due("serve", x.serve(0, 3, 50), 0);
        Due.due("what -1", x.service(0, -1), BAD);
        Due.due("what 4", x.service(0, 4), BAD);
        Due.due("BAD before FULL", x.serve(0, 4, 50), BAD);
        Due.due("BAD before FULL", x.serve(0, 3, 51), BAD);
        Due.due("FULL", x.serve(0, 3, 50), FULL);
        x.birth(0, 0);
        Due.due("watch -1", x.watch(-1), BAD);
        Due.due("watch 3", x.watch(3), BAD);
        Due.due("watch a service that is none", x.watch(2), 0);
        Due.due("what -1 of none", x.service(2, -1), BAD);
    }

    private static void servesAndBegins() {
        ReviveKernel x = new ReviveKernel();
        Due.due("serve", x.serve(1, 2, 10), 0);
        Due.due("it is DOWN", x.service(1, 0), DOWN);
        Due.due("no process", x.service(1, 1), -1);
        Due.due("pause", x.service(1, 2), 1);
        Due.due("it never began", x.service(1, 3), 0);
        Due.due("FULL if DOWN", x.serve(1, 2, 10), FULL);
        x.birth(1, 0);
        Due.due("begins", x.tick(1), 1);
        Due.due("there", x.service(1, 0), THERE);
        Due.due("endpoint", x.service(1, 1), 1);
        Due.due("pause", x.service(1, 2), 1);
        Due.due("began", x.service(1, 3), 1);
        Due.due("FULL if there", x.serve(1, 2, 10), FULL);
        Due.due("base", x.at(1, 3), 2);
        Due.due("ready", x.at(1, 1), 1);
        Due.due("processes", x.total(1), 2);
        x.end(0);
        for (int i = 0; i < 9; i++) {
            x.birth(3, 0);
        }
        x.receive(ANY, false);
        for (int slot = 0; slot < 10; slot++) {
            if (slot != 1) {
                Due.due("mask of all slots", x.note(x.at(slot, 0)), 0);
            }
        }
        Due.due("no more begin", x.tick(1), 0);
    }

    private static void beats() {
        ReviveKernel x = new ReviveKernel();
        x.serve(2, 1, 10);
        x.serve(0, 2, 10);
        x.tick(1);
        x.birth(0, 1023);
        Due.due("no service's process", x.beat(), NOTHING);
        x.leave();
        Due.due("of service 2", x.running(), 1);
        Due.due("beat", x.beat(), 2);
        x.receive(ANY, true);
        Due.due("beat", x.beat(), 0);
        x.close(0);
        Due.due("of a closed one", x.beat(), NOTHING);
    }

    private static void silentOnesEnd() {
        ReviveKernel x = new ReviveKernel();
        x.serve(0, 1, 2);
        x.serve(1, 1, 50);
        Due.due("both begin", x.tick(1), 2);
        x.tick(1);
        Due.due("born one tick ago", x.service(0, 0), THERE);
        Due.due("ends, begins not", x.tick(1), 0);
        Due.due("born two ticks ago", x.service(0, 0), DOWN);
        Due.due("no process", x.service(0, 1), -1);
        Due.due("ended", x.total(5), 1);
        Due.due("due at the next tick", x.tick(1), 1);
        Due.due("in the slot of before", x.service(0, 1), 16);
        Due.due("began", x.service(0, 3), 2);
        x.close(0);
        x.tick(46);
        Due.due("time", x.total(0), 50);
        Due.due("49 ticks", x.service(1, 0), THERE);
        x.tick(1);
        Due.due("50 ticks", x.service(1, 0), DOWN);
    }

    private static void beatsKeepAlive() {
        ReviveKernel x = new ReviveKernel();
        x.serve(0, 1, 3);
        x.tick(1);
        for (int i = 0; i < 10; i++) {
            x.tick(2);
            Due.due("beat in time", x.beat(), 0);
        }
        Due.due("there", x.service(0, 0), THERE);
        x.tick(2);
        Due.due("two ticks", x.service(0, 0), THERE);
        x.tick(1);
        Due.due("three ticks", x.service(0, 0), DOWN);
        Due.due("began once", x.service(0, 3), 1);
    }

    private static void pausesGrow() {
        ReviveKernel x = new ReviveKernel();
        x.serve(0, 1, 50);
        x.tick(1);
        int[] waits = {1, 2, 4, 8, 8, 8};
        int[] pauses = {2, 4, 8, 8, 8, 8};
        for (int i = 0; i < waits.length; i++) {
            Due.due("it leaves", x.leave(), 16 * i);
            Due.due("down", x.service(0, 0), DOWN);
            Due.due("pause " + i, x.service(0, 2), pauses[i]);
            if (waits[i] > 1) {
                Due.due("not yet due", x.tick(waits[i] - 1), 0);
            }
            Due.due("due", x.tick(1), 1);
            Due.due("pause stays", x.service(0, 2), pauses[i]);
            Due.due("began", x.service(0, 3), i + 2);
        }
    }

    private static void longPausesAreForgotten() {
        ReviveKernel x = new ReviveKernel();
        x.serve(0, 1, 50);
        x.tick(1);
        x.end(0);
        x.tick(1);
        x.end(0);
        x.tick(2);
        Due.due("pause", x.service(0, 2), 4);
        x.tick(16);
        Due.due("pause is as before while it is there", x.service(0, 2), 4);
        x.end(0);
        Due.due("1, then doubled", x.service(0, 2), 2);
        Due.due("due after 1", x.tick(1), 1);
        x.tick(15);
        x.end(0);
        Due.due("15 ticks are too few", x.service(0, 2), 4);
        Due.due("due after 2", x.tick(1), 0);
        Due.due("due after 2", x.tick(1), 1);
    }

    private static void steadyEdges() {
        ReviveKernel x = new ReviveKernel();
        x.serve(0, 1, 16);
        x.tick(1);
        x.end(0);
        x.tick(1);
        x.end(0);
        x.tick(2);
        Due.due("pause", x.service(0, 2), 4);
        x.tick(15);
        Due.due("there", x.service(0, 0), THERE);
        x.tick(1);
        Due.due("silent for 16 ticks", x.service(0, 0), DOWN);
        Due.due("it was there 16 ticks", x.service(0, 2), 2);
        Due.due("due after 1", x.tick(1), 1);

        ReviveKernel y = new ReviveKernel();
        y.serve(0, 1, 15);
        y.tick(1);
        y.tick(15);
        Due.due("silent for 15 ticks", y.service(0, 2), 2);
        y.tick(1);
        y.tick(15);
        Due.due("it was there 15 ticks", y.service(0, 2), 4);
    }

    private static void closes() {
        ReviveKernel x = new ReviveKernel();
        x.serve(0, 1, 5);
        Due.due("close before it began", x.close(0), true);
        Due.due("none begins", x.tick(2), 0);
        Due.due("close again", x.close(0), false);
        x.serve(0, 1, 5);
        x.tick(1);
        x.end(0);
        x.tick(1);
        Due.due("close", x.close(0), true);
        Due.due("none", x.service(0, 0), ABSENT);
        Due.due("endpoint of none", x.service(0, 1), BAD);
        Due.due("its process stays", x.at(0, 0), 16);
        x.tick(10);
        Due.due("it need not beat", x.at(0, 0), 16);
        Due.due("serve again", x.serve(0, 2, 5), 0);
        Due.due("a new pause", x.service(0, 2), 1);
        Due.due("a new count", x.service(0, 3), 0);
        Due.due("the old process is none of its", x.service(0, 1), -1);
        x.end(0);
        Due.due("its end does not matter", x.service(0, 2), 1);
        Due.due("begins", x.tick(1), 1);
        Due.due("endpoint", x.service(0, 1), 32);
        x.end(0);
        Due.due("close while DOWN", x.close(0), true);
        Due.due("none begins", x.tick(5), 0);

        ReviveKernel y = new ReviveKernel();
        y.serve(0, 1, 50);
        y.tick(1);
        for (int pause = 1; pause <= 4; pause *= 2) {
            y.end(0);
            y.tick(pause);
        }
        y.end(0);
        Due.due("due in eight ticks", y.tick(1), 0);
        y.close(0);
        y.serve(0, 1, 50);
        Due.due("a new one is due at the next tick", y.tick(1), 1);
    }

    private static void noSlotIsFree() {
        ReviveKernel x = new ReviveKernel();
        for (int slot = 0; slot < 10; slot++) {
            x.birth(3, 1023);
        }
        x.serve(0, 1, 5);
        Due.due("no slot", x.tick(3), 0);
        Due.due("down", x.service(0, 0), DOWN);
        Due.due("pause", x.service(0, 2), 1);
        x.end(6);
        Due.due("a slot", x.tick(1), 1);
        Due.due("in slot 6", x.service(0, 1), 22);

        ReviveKernel y = new ReviveKernel();
        y.serve(1, 3, 50);
        y.tick(1);
        for (int slot = 1; slot < 10; slot++) {
            y.birth(0, 1023);
        }
        y.serve(0, 3, 50);
        Due.due("none", y.tick(1), 0);
        y.end(0);
        Due.due("only the first one finds a slot", y.tick(1), 1);
        Due.due("service 0", y.service(0, 1), 16);
        Due.due("service 1", y.service(1, 1), -1);
        y.end(4);
        Due.due("then the other", y.tick(1), 1);
        Due.due("service 1", y.service(1, 1), 20);
    }

    private static void servicesInOrder() {
        ReviveKernel x = new ReviveKernel();
        x.serve(2, 1, 50);
        x.serve(1, 1, 50);
        x.serve(0, 1, 50);
        Due.due("all begin", x.tick(1), 3);
        for (int k = 0; k < 3; k++) {
            Due.due("service " + k, x.service(k, 1), k);
            Due.due("place in the row", x.at(k, 9), k);
        }
        x.end(0);
        x.end(1);
        x.end(2);
        Due.due("at 2 and, after 50 silent ticks, at 53", x.tick(100), 6);
    }

    private static void watchers() {
        ReviveKernel x = new ReviveKernel();
        x.birth(0, 1023);
        Due.due("watch", x.watch(1), 0);
        Due.due("watch again", x.watch(1), 0);
        x.serve(0, 3, 50);
        x.serve(1, 3, 50);
        x.tick(1);
        Due.due("a note", x.at(0, 6), 1);
        Due.due("get it", x.receive(ANY, true), 1);
        Due.due("source", x.at(0, 10), -4);
        Due.due("nothing of service 0", x.receive(ANY, false), NOTHING);
        x.receive(ANY, true);
        x.end(2);
        x.end(1);
        Due.due("both begin", x.tick(1), 2);
        Due.due("taken", x.at(0, 1), 1);
        Due.due("notes got", x.total(3), 2);
        x.receive(2 + 16, true);
        x.end(2);
        x.tick(2);
        Due.due("who received from the ended one is ready", x.at(0, 13), STALE);
        Due.due("and has the note", x.at(0, 6), 1);
        x.close(1);
        x.serve(1, 3, 50);
        Due.due("still watches", x.receive(ANY, true), 1);
        x.tick(1);
        Due.due("a service of the same number", x.at(0, 6), 1);
        Due.due("watch 2 too", x.watch(2), 0);
        x.serve(2, 3, 50);
        x.tick(1);
        Due.due("two notes", x.at(0, 6), 2);
        x.receive(ANY, true);
        x.receive(ANY, true);
        Due.due("of service 2", x.at(0, 10), -5);
    }

    private static void watchersBySlots() {
        ReviveKernel x = new ReviveKernel();
        for (int slot = 0; slot < 3; slot++) {
            x.birth(2, 1023);
        }
        x.tick(4);
        for (int i = 0; i < 3; i++) {
            x.watch(0);
            x.receive(ANY, true);
        }
        x.tick(4);
        x.serve(0, 2, 50);
        x.tick(1);
        Due.due("the new one came first", x.at(3, 9), 0);
        for (int slot = 0; slot < 3; slot++) {
            Due.due("by slots", x.at(slot, 9), slot + 1);
        }
        Due.due("who watched before it began has the note once", x.total(3), 3);
    }

    private static void aServiceThatIsWaitedFor() {
        ReviveKernel x = new ReviveKernel();
        x.serve(0, 1, 2);
        x.tick(1);
        x.birth(0, 1023);
        Due.due("a call to the service", x.call(0, 5), BLOCKED);
        Due.due("it gets it", x.receive(ANY, true), 0);
        x.tick(2);
        Due.due("the caller is ready", x.at(1, 1), 1);
        Due.due("with STALE", x.at(1, 13), STALE);
        Due.due("the old endpoint", x.send(0, 1), STALE);
        x.tick(1);
        Due.due("the new endpoint", x.send(16, 1), BLOCKED);
    }
}
