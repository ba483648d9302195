/** Promises 14 and 19, without services: alarm, tick and the turns of processes. */
public final class TimeTest {
    private static final int BAD = ReviveKernel.BAD, NOTHING = ReviveKernel.NOTHING, BLOCKED = ReviveKernel.BLOCKED;
    private static final int ANY = -1;

    public static void main(String[] args) {
        wrongNumbers();
        ticksOfRunning();
        lastRowTurns();
        eighthTicks();
        eighthTickIsOneStep();
        waitingOnesAreRelievedToo();
        turnsPlayTogether();
        alarms();
        alarmsOfThoseThatWait();
        alarmsBySlots();
        Due.close("TimeTest");
    }

    private static void wrongNumbers() {
        ReviveKernel x = new ReviveKernel();
        Due.due("alarm of nobody", x.alarm(1), BAD);
        x.birth(1, 1023);
        for (int n : new int[] {0, -1, 101, Integer.MAX_VALUE, Integer.MIN_VALUE}) {
            Due.due("tick " + n, x.tick(n), BAD);
        }
        Due.due("nothing changed", x.total(0), 0);
        Due.due("nothing changed", x.at(0, 4), 4);
        for (int n : new int[] {-1, 101, Integer.MAX_VALUE, Integer.MIN_VALUE}) {
            Due.due("alarm " + n, x.alarm(n), BAD);
        }
        Due.due("no alarm", x.at(0, 14), 0);
        Due.due("alarm 100", x.alarm(100), 0);
        Due.due("tick 100", x.tick(100), 0);
        Due.due("time", x.total(0), 100);
        Due.due("tick 1", x.tick(1), 0);
        Due.due("time", x.total(0), 101);
        ReviveKernel empty = new ReviveKernel();
        Due.due("tick of nobody", empty.tick(7), 0);
        Due.due("time", empty.total(0), 7);
    }

    private static void ticksOfRunning() {
        ReviveKernel x = new ReviveKernel();
        x.birth(1, 1023);
        x.birth(1, 1023);
        x.birth(2, 1023);
        for (int left = 3; left >= 1; left--) {
            x.tick(1);
            Due.due("ticks of the one that runs", x.at(0, 4), left);
            Due.due("ticks of the next", x.at(1, 4), 4);
            Due.due("still running", x.running(), 0);
        }
        x.tick(1);
        Due.due("priority", x.at(0, 3), 2);
        Due.due("ticks", x.at(0, 4), 4);
        Due.due("last of row 2", x.at(0, 9), 1);
        Due.due("1 runs", x.running(), 1);
        x.tick(1);
        x.receive(ANY, true);
        x.note(1);
        Due.due("waiting leaves the ticks", x.at(1, 4), 3);
        Due.due("and the priority", x.at(1, 3), 1);
    }

    private static void lastRowTurns() {
        ReviveKernel x = new ReviveKernel();
        x.birth(3, 1023);
        x.birth(3, 1023);
        x.tick(4);
        Due.due("at most 3", x.at(0, 3), 3);
        Due.due("ticks", x.at(0, 4), 4);
        Due.due("last of its row", x.at(0, 9), 1);
        Due.due("1 runs", x.running(), 1);
        x.tick(4);
        Due.due("0 runs again", x.running(), 0);
        Due.due("no priority is above its base", x.at(0, 9), 0);
    }

    private static void eighthTicks() {
        ReviveKernel x = new ReviveKernel();
        x.birth(0, 1023);
        x.tick(4);
        Due.due("after 4", x.at(0, 3), 1);
        x.tick(3);
        Due.due("after 7", x.at(0, 3), 1);
        x.tick(1);
        Due.due("after 8: one more, then one less", x.at(0, 3), 1);
        x.tick(4);
        Due.due("after 12", x.at(0, 3), 2);
        x.receive(ANY, true);
        x.tick(3);
        Due.due("after 15", x.at(0, 3), 2);
        x.tick(1);
        Due.due("after 16", x.at(0, 3), 1);
        x.tick(7);
        Due.due("after 23", x.at(0, 3), 1);
        x.tick(1);
        Due.due("after 24", x.at(0, 3), 0);
        x.tick(8);
        Due.due("not below its base", x.at(0, 3), 0);
    }

    private static void eighthTickIsOneStep() {
        ReviveKernel x = new ReviveKernel();
        x.birth(0, 1023);
        x.birth(1, 1023);
        x.tick(4);
        Due.due("1 runs, 0 is behind it", x.at(0, 9), 1);
        x.tick(3);
        x.birth(2, 1023);
        Due.due("place of 2", x.at(2, 9), 0);
        x.tick(1);
        Due.due("1 came into row 2 and back into row 1", x.at(1, 3), 1);
        Due.due("0 came into row 0", x.at(0, 3), 0);
        Due.due("0 runs", x.running(), 0);
        Due.due("1 is alone", x.at(1, 9), 0);
        Due.due("2 stays", x.at(2, 9), 0);
    }

    private static void waitingOnesAreRelievedToo() {
        ReviveKernel x = new ReviveKernel();
        x.birth(0, 1023);
        x.birth(2, 1023);
        x.birth(3, 1023);
        x.tick(4);
        Due.due("0 sends first", x.send(2, 10), BLOCKED);
        Due.due("1 sends then", x.send(2, 11), BLOCKED);
        x.tick(4);
        Due.due("0 is relieved", x.at(0, 3), 0);
        x.receive(ANY, true);
        Due.due("and keeps its place in the queue", x.at(2, 12), 10);
        Due.due("when it is ready it comes into that row", x.running(), 0);
    }

    private static void turnsPlayTogether() {
        ReviveKernel x = new ReviveKernel();
        x.birth(1, 1023);
        x.birth(1, 1023);
        x.birth(1, 1023);
        int[] runs = {0, 0, 0, 0, 1, 1, 1, 1, 2, 2, 2, 2, 0, 0, 0, 0, 1, 1, 1, 1};
        // At 4 process 0 comes into row 2, at 8 process 1; then both are relieved into row 1, 0 first.
        for (int i = 0; i < runs.length; i++) {
            Due.due("who runs at " + i, x.running(), runs[i]);
            x.tick(1);
        }
        Due.due("time", x.total(0), 20);
    }

    private static void alarms() {
        ReviveKernel x = new ReviveKernel();
        x.birth(1, 1023);
        Due.due("none before", x.alarm(5), 0);
        Due.due("ticks till it", x.at(0, 14), 5);
        x.tick(2);
        Due.due("ticks till it", x.at(0, 14), 3);
        Due.due("three were left", x.alarm(2), 3);
        x.tick(1);
        Due.due("no note yet", x.at(0, 6), 0);
        Due.due("one was left", x.alarm(1), 1);
        x.tick(1);
        Due.due("a note", x.at(0, 6), 1);
        Due.due("no alarm", x.at(0, 14), 0);
        Due.due("none was left", x.alarm(3), 0);
        Due.due("no more", x.alarm(0), 3);
        Due.due("none was left", x.alarm(0), 0);
        x.tick(5);
        Due.due("get it", x.receive(ANY, true), 1);
        Due.due("source", x.at(0, 10), -2);
        Due.due("sort", x.at(0, 11), 1);
        Due.due("value", x.at(0, 12), 0);
        Due.due("once only", x.receive(ANY, false), NOTHING);
        x.alarm(1);
        x.tick(1);
        x.alarm(1);
        x.tick(1);
        Due.due("one note of the clock at most", x.at(0, 6), 1);
        Due.due("notes got", x.total(3), 1);
    }

    private static void alarmsOfThoseThatWait() {
        ReviveKernel x = new ReviveKernel();
        for (int slot = 0; slot < 5; slot++) {
            x.birth(1, 1023);
        }
        x.alarm(3);
        x.receive(ANY, true);
        x.alarm(3);
        x.receive(4, true);
        x.alarm(3);
        x.send(1, 1);
        x.alarm(3);
        x.call(0, 1);
        x.alarm(3);
        x.receive(0, true);
        Due.due("0 got the call", x.receive(ANY, true), BLOCKED);
        x.tick(2);
        for (int slot = 0; slot < 5; slot++) {
            Due.due("one tick is left of " + slot, x.at(slot, 14), 1);
            Due.due("no note of " + slot, x.at(slot, 6), 0);
        }
        x.tick(1);
        int[] states = {1, 3, 2, 4, 3};
        for (int slot = 0; slot < 5; slot++) {
            Due.due("state of " + slot, x.at(slot, 1), states[slot]);
            Due.due("notes of " + slot, x.at(slot, 6), slot == 0 ? 0 : 1);
        }
        Due.due("0 received from any: it took it", x.at(0, 10), -2);
        Due.due("sort", x.at(0, 11), 1);
        Due.due("notes got", x.total(3), 1);
        x.tick(10);
        Due.due("no more alarms", x.at(0, 6), 0);
    }

    private static void alarmsBySlots() {
        ReviveKernel x = new ReviveKernel();
        x.birth(1, 1023);
        x.birth(0, 1023);
        x.birth(1, 1023);
        Due.due("1 is first", x.running(), 1);
        x.alarm(2);
        x.receive(ANY, true);
        x.alarm(2);
        x.receive(ANY, true);
        x.alarm(2);
        x.receive(ANY, true);
        x.tick(2);
        Due.due("1 is in row 0", x.running(), 1);
        Due.due("0 came before 2", x.at(0, 9), 0);
        Due.due("2 came last", x.at(2, 9), 1);
        Due.due("nobody's ticks were used", x.at(1, 4), 4);

        ReviveKernel y = new ReviveKernel();
        y.birth(3, 1023);
        y.birth(3, 1023);
        y.alarm(5);
        y.receive(1, true);
        y.alarm(5);
        y.tick(5);
        Due.due("the waiting one has it", y.at(0, 6), 1);
        Due.due("the ready one has it", y.at(1, 6), 1);
    }
}
