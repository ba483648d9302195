/** Promises 1 to 4 and 22: a new object, birth, end, leave, running. */
public final class BirthAndEndTest {
    private static final int BAD = ReviveKernel.BAD, BLOCKED = ReviveKernel.BLOCKED, STALE = ReviveKernel.STALE;
    private static final int NOTHING = ReviveKernel.NOTHING, FULL = ReviveKernel.FULL;

    public static void main(String[] args) {
        newObject();
        births();
        ends();
        endedOnesLeaveNothing();
        waitersOfAnEndedOne();
        leaves();
        runningIsFirstOfLeastRow();
        Due.close("BirthAndEndTest");
    }

    private static void newObject() {
        ReviveKernel x = new ReviveKernel();
        for (int what = 0; what < 7; what++) {
            Due.due("total " + what + " at first", x.total(what), 0);
        }
        for (int slot = 0; slot < 10; slot++) {
            Due.due("no process at first", x.at(slot, 0), BAD);
        }
        for (int k = 0; k < 3; k++) {
            Due.due("no service at first", x.service(k, 0), 0);
        }
        Due.due("none runs at first", x.running(), NOTHING);
    }

    private static void births() {
        ReviveKernel x = new ReviveKernel();
        Due.due("base -1", x.birth(-1, 0), BAD);
        Due.due("base 4", x.birth(4, 0), BAD);
        Due.due("mask -1", x.birth(0, -1), BAD);
        Due.due("mask 1024", x.birth(0, 1024), BAD);
        Due.due("nothing was born", x.total(1), 0);
        for (int slot = 0; slot < 10; slot++) {
            Due.due("birth in the least free slot", x.birth(slot % 4, 1023), slot);
            Due.due("priority is the base", x.at(slot, 3), slot % 4);
            Due.due("ticks at first", x.at(slot, 4), 4);
            Due.due("ready at first", x.at(slot, 1), 1);
        }
        Due.due("no slot is free", x.birth(0, 0), FULL);
        Due.due("BAD before FULL", x.birth(4, 0), BAD);
        x.end(7);
        x.end(3);
        Due.due("least slot, second in it", x.birth(3, 0), 19);
        Due.due("then the other", x.birth(3, 0), 23);
        x.end(3);
        Due.due("third in it", x.birth(3, 0), 35);
        Due.due("processes", x.total(1), 10);
    }

    private static void ends() {
        ReviveKernel x = new ReviveKernel();
        Due.due("end of an empty slot", x.end(0), false);
        Due.due("end of slot -1", x.end(-1), false);
        Due.due("end of slot 10", x.end(10), false);
        x.birth(1, 1023);
        Due.due("end", x.end(0), true);
        Due.due("end again", x.end(0), false);
        Due.due("ended", x.total(5), 1);
        Due.due("processes", x.total(1), 0);
        Due.due("none runs", x.running(), NOTHING);
    }

    private static void endedOnesLeaveNothing() {
        ReviveKernel x = new ReviveKernel();
        x.birth(0, 1023);
        x.birth(1, 1023);
        x.birth(2, 1023);
        x.note(1);
        x.post(1, 5);
        x.lend(0, -1, 0, 16, 3);
        x.poke(0, 0, 9);
        x.alarm(3);
        x.watch(0);
        x.send(1, 6);
        Due.due("note of 0", x.at(1, 6), 1);
        Due.due("letter of 0", x.at(1, 7), 1);
        Due.due("0 in the queue", x.at(1, 5), 1);
        x.post(2, 1);
        x.end(0);
        Due.due("its note is gone", x.at(1, 6), 0);
        Due.due("its letter is gone", x.at(1, 7), 0);
        Due.due("it is in no queue", x.at(1, 5), 0);
        Due.due("others' letters stay", x.at(2, 7), 1);
        Due.due("the next one", x.birth(0, 1023), 16);
        Due.due("memory is new", x.memory(0, 0), 0);
        Due.due("no grant", x.revoke(0), NOTHING);
        Due.due("no alarm", x.at(0, 14), 0);
        Due.due("none of its letters waits", x.at(0, 8), 0);
        x.serve(0, 3, 50);
        x.tick(1);
        Due.due("it watches nothing", x.at(0, 6), 0);
        x.receive(-1, true);
        x.post(2, 3);
        Due.due("letters of 1 not got", x.at(1, 8), 2);
        x.end(2);
        Due.due("letters to an ended one are gone", x.at(1, 8), 0);
    }

    private static void waitersOfAnEndedOne() {
        ReviveKernel x = new ReviveKernel();
        for (int slot = 0; slot < 6; slot++) {
            x.birth(slot == 5 ? 3 : 2, 1023);
        }
        x.receive(5, true);
        x.send(5, 1);
        x.receive(-1, true);
        x.receive(4, true);
        Due.due("4 calls 5", x.call(5, 2), BLOCKED);
        x.receive(4, false);
        Due.due("4 awaits", x.at(4, 1), 4);
        x.end(5);
        for (int slot : new int[] {0, 1, 4}) {
            Due.due("ready " + slot, x.at(slot, 1), 1);
            Due.due("stale " + slot, x.at(slot, 13), STALE);
            Due.due("waits for itself " + slot, x.at(slot, 2), slot);
        }
        Due.due("the one that receives from any waits on", x.at(2, 1), 3);
        Due.due("the one behind another waits on", x.at(3, 1), 3);
        Due.due("by slots, 0", x.at(0, 9), 0);
        Due.due("by slots, 1", x.at(1, 9), 1);
        Due.due("by slots, 4", x.at(4, 9), 2);
        x.send(1, 1);
        Due.due("a new waiting begins with 0", x.at(0, 13), 0);
    }

    private static void leaves() {
        ReviveKernel x = new ReviveKernel();
        Due.due("nobody leaves", x.leave(), BAD);
        x.birth(1, 0);
        x.birth(0, 0);
        Due.due("leave", x.leave(), 1);
        Due.due("leave", x.leave(), 0);
        Due.due("leave", x.leave(), BAD);
        Due.due("ended", x.total(5), 2);
        x.birth(1, 0);
        Due.due("leave of the second one", x.leave(), 16);
    }

    private static void runningIsFirstOfLeastRow() {
        ReviveKernel x = new ReviveKernel();
        x.birth(2, 1023);
        x.birth(1, 1023);
        x.birth(1, 1023);
        Due.due("least row, first", x.running(), 1);
        x.receive(-1, true);
        Due.due("next in the row", x.running(), 2);
        x.note(1);
        Due.due("who becomes ready is the last", x.running(), 2);
        Due.due("place of 1", x.at(1, 9), 1);
        x.receive(-1, true);
        x.receive(-1, true);
        Due.due("the next row", x.running(), 0);
        x.note(2);
        Due.due("the lesser row again", x.running(), 2);
        x.end(2);
        x.end(1);
        x.receive(-1, true);
        Due.due("all wait", x.running(), NOTHING);
    }
}
