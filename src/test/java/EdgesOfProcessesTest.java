/** The edges that the document names in its terms and in promises 1 to 4 and 20 to 22, a method for each. */
public final class EdgesOfProcessesTest {
    private static final int BAD = ReviveKernel.BAD, BLOCKED = ReviveKernel.BLOCKED, STALE = ReviveKernel.STALE;
    private static final int DENIED = ReviveKernel.DENIED, NOTHING = ReviveKernel.NOTHING, FULL = ReviveKernel.FULL;
    private static final int ANY = Scene.ANY, LEAST = Scene.LEAST, MOST = Scene.MOST;

    public static void main(String[] args) {
        usedForManyCalls();
        usedForManyTicks();
        tenSlots();
        endpointsOfEachSlot();
        endpointsOfOthers();
        maskOfEachSlot();
        firstValues();
        theLeastRowThatHasAny();
        whoComesIsTheLast();
        nothingIsThereAtFirst();
        birthNumbers();
        birthInTheLeastFreeSlot();
        birthWhenFull();
        endOfNone();
        endOfEachState();
        leaveOfNone();
        leaveAnswersTheEndpoint();
        itsQueueIsGone();
        itsNotesAreGone();
        itsLettersAreGone();
        itsGrantsAreGone();
        itsAlarmIsGone();
        notesFromItAreGone();
        lettersFromItAreGone();
        itLeavesTheQueueOfAnother();
        waitersAreReadyBySlots();
        onlyItsOwnWaitersAreReady();
        itWatchesNothing();
        itsServiceIsDown();
        pokeNumbers();
        memoryNumbers();
        runningOfNone();
        Due.close("EdgesOfProcessesTest");
    }

    // "An object is used for at most 512 calls": the last of them answers as the first.
    private static void usedForManyCalls() {
        ReviveKernel x = new ReviveKernel();
        for (int g = 0; g < 256; g++) {
            Due.due("birth " + g, x.birth(g % 4, 1023), 16 * g);
            Due.due("leave " + g, x.leave(), 16 * g);
        }
    }

    private static void usedForManyTicks() {
        ReviveKernel x = new ReviveKernel();
        x.serve(0, 0, 50);
        int begun = 0;
        for (int i = 0; i < 508; i++) {
            begun += x.tick(100);
        }
        Due.due("time after 508 times 100 ticks", x.total(0), 50800);
        // It begins at 1, is silent at 51, begins at 52, and so on: 51 ticks each time.
        Due.due("begun", begun, (50800 - 1) / 51 + 1);
        Due.due("the last one's endpoint", x.service(0, 1), 16 * (begun - 1));
    }

    // "SLOTS 0 .. 9 have a PROCESS each, or none."
    private static void tenSlots() {
        ReviveKernel x = new ReviveKernel();
        for (int slot = 0; slot < 10; slot++) {
            Due.due("none in " + slot, x.at(slot, 0), BAD);
            Due.due("birth in " + slot, x.birth(1, 1023), slot);
            Due.due("one in " + slot, x.at(slot, 0), slot);
        }
        Due.due("processes", x.total(1), 10);
        for (int slot : new int[] {-1, 10, 16, LEAST, MOST}) {
            Due.refused("end " + slot, x, () -> x.end(slot));
            Due.due("at " + slot, x.at(slot, 0), BAD);
        }
    }

    // "Its ENDPOINT is 16 g + its slot, g being how many were in that slot before."
    private static void endpointsOfEachSlot() {
        ReviveKernel x = Scene.row(10);
        for (int slot = 0; slot < 10; slot++) {
            for (int g = 1; g <= slot + 1; g++) {
                x.end(slot);
                Due.due("number " + g + " in slot " + slot, x.birth(0, 0), 16 * g + slot);
                Due.due("it is told so", x.at(slot, 0), 16 * g + slot);
            }
        }
    }

    // "STALE if an endpoint is none of a process that is there": not of one before, one to come, or none at all.
    private static void endpointsOfOthers() {
        ReviveKernel x = Scene.row(3);
        x.end(2);
        x.birth(1, 1023);
        x.end(2);
        x.birth(1, 1023);
        Due.due("the third in slot 2", x.at(2, 0), 34);
        int[] others = {2, 18, 50, 34 - 64, 34 + 256, 34 + (1 << 16), 34 + (1 << 30), 34 | LEAST, -34, -2, -3, -5, 3, 9,
            10, 26, 42, 15, 31, 47, LEAST, MOST, MOST - 13};
        for (int other : others) {
            Due.refused("send to " + other, x, () -> x.send(other, 1), STALE);
            Due.refused("receive from " + other, x, () -> x.receive(other, true), STALE);
            Due.refused("lend to " + other, x, () -> x.lend(0, other, 0, 1, 1), STALE);
            Due.refused("copy of " + other, x, () -> x.copy(other, 0, 0, 0, 1, false), STALE);
        }
        Due.due("the one that is there", x.send(34, 1), BLOCKED);
    }

    // "a MASK, the set of slots to which it may send (bit s for slot s)"
    private static void maskOfEachSlot() {
        for (int bit = 0; bit < 10; bit++) {
            ReviveKernel x = new ReviveKernel();
            for (int slot = 0; slot < 9; slot++) {
                x.birth(2, 0);
            }
            int mask = 1 << bit;
            x.birth(0, mask);
            Due.due("slot 9 runs", x.running(), 9);
            for (int slot = 0; slot < 9; slot++) {
                Due.due("bit " + bit + ", note to " + slot, x.note(slot), slot == bit ? 0 : DENIED);
                Due.due("bit " + bit + ", post to " + slot, x.post(slot, 1), slot == bit ? 0 : DENIED);
            }
            Due.due("to itself it is BAD, whatever the mask", x.note(9), BAD);
            Due.due("bit " + bit + ", send", x.send(bit == 9 ? 0 : bit, 1), bit == 9 ? DENIED : BLOCKED);
        }
        ReviveKernel y = Scene.row(9);
        y.birth(0, 1 << 9);
        y.leave();
        y.birth(0, 1023);
        y.leave();
        Due.due("0 runs", y.running(), 0);
        y.birth(2, 1023);
        Due.due("a bit is for whoever is in that slot", y.note(41), 0);
        Due.due("the last bit, an ended one", y.note(9), STALE);
    }

    // "a MEMORY of 16 ints (0 at first), a BASE 0 .. 3, a PRIORITY (its BASE at first), TICKS (4 at first)"
    private static void firstValues() {
        for (int base = 0; base <= 3; base++) {
            ReviveKernel x = Scene.of(base);
            Due.due("PRIORITY", x.at(0, 3), base);
            Due.due("TICKS", x.at(0, 4), 4);
            for (int a = 0; a < 16; a++) {
                Due.due("word " + a, x.memory(0, a), 0);
                x.poke(0, a, -1);
            }
            x.tick(3);
            x.end(0);
            x.birth(3 - base, 1023);
            Due.due("PRIORITY of the next one", x.at(0, 3), 3 - base);
            Due.due("TICKS of the next one", x.at(0, 4), 4);
            for (int a = 0; a < 16; a++) {
                Due.due("word " + a + " of the next one", x.memory(0, a), 0);
            }
        }
    }

    // "RUNNING is the first one of the least row that has any."
    private static void theLeastRowThatHasAny() {
        ReviveKernel x = Scene.of(3, 2, 1, 0, 3, 2, 1, 0);
        for (int slot : new int[] {3, 7, 2, 6, 1, 5, 0, 4}) {
            Due.due("running", x.running(), slot);
            Due.due("leave", x.leave(), slot);
        }
        Due.due("no row has any", x.running(), NOTHING);
    }

    // "who becomes READY, or comes into a row, is its last one"
    private static void whoComesIsTheLast() {
        ReviveKernel x = Scene.row(10);
        for (int slot = 0; slot < 10; slot++) {
            Due.due("place of " + slot, x.at(slot, 9), slot);
        }
        x.receive(ANY, true);
        Due.due("the others moved up", x.at(9, 9), 8);
        x.note(0);
        Due.due("0 is the last one", x.at(0, 9), 9);
        x.end(5);
        Due.due("0 moved up", x.at(0, 9), 8);
        x.birth(1, 1023);
        Due.due("a new one is the last one", x.at(5, 9), 9);
    }

    // Promise 1: "No processes and services; time 0."
    private static void nothingIsThereAtFirst() {
        ReviveKernel x = new ReviveKernel();
        for (int slot = 0; slot < 10; slot++) {
            for (int what = 0; what < 15; what++) {
                Due.due("at " + slot + ", " + what, x.at(slot, what), BAD);
            }
            Due.due("end " + slot, x.end(slot), false);
        }
        for (int k = 0; k < 3; k++) {
            Due.due("service " + k, x.service(k, 0), 0);
            Due.due("close " + k, x.close(k), false);
        }
        for (int what = 0; what < 7; what++) {
            Due.due("total " + what, x.total(what), 0);
        }
        Due.due("no service begins of itself", x.tick(100), 0);
        Due.due("an object has nothing of another", new ReviveKernel().total(0), 0);
    }

    // Promise 2: "BAD if base is not 0 .. 3 or mask not 0 .. 1023"
    private static void birthNumbers() {
        ReviveKernel x = new ReviveKernel();
        for (int wrong : new int[] {-1, 4, 5, LEAST, MOST}) {
            Due.refused("base " + wrong, x, () -> x.birth(wrong, 0), BAD);
        }
        for (int wrong : new int[] {-1, 1024, 1025, 2047, LEAST, MOST}) {
            Due.refused("mask " + wrong, x, () -> x.birth(0, wrong), BAD);
        }
        Due.refused("both", x, () -> x.birth(4, 1024), BAD);
        Due.due("least base and mask", x.birth(0, 0), 0);
        Due.due("most base and mask", x.birth(3, 1023), 1);
        Due.due("least and most", x.birth(0, 1023), 2);
        Due.due("most and least", x.birth(3, 0), 3);
    }

    // Promise 2: "in the least slot that has none, READY"
    private static void birthInTheLeastFreeSlot() {
        ReviveKernel x = Scene.row(10);
        for (int slot : new int[] {9, 4, 0}) {
            x.end(slot);
        }
        for (int slot : new int[] {0, 4, 9}) {
            Due.due("the least free one", x.birth(2, 1023), 16 + slot);
            Due.due("READY", x.at(slot, 1), Scene.READY);
        }
    }

    // Promise 2: "else FULL if there is none"
    private static void birthWhenFull() {
        ReviveKernel x = Scene.row(10);
        Due.refused("FULL", x, () -> x.birth(0, 1023), FULL);
        Due.refused("BAD base before FULL", x, () -> x.birth(-1, 1023), BAD);
        Due.refused("BAD mask before FULL", x, () -> x.birth(0, 1024), BAD);
        for (int slot = 0; slot < 10; slot++) {
            x.receive(ANY, true);
        }
        Due.refused("FULL of those that wait", x, () -> x.birth(0, 1023), FULL);
        x.end(9);
        Due.due("one slot is free", x.birth(0, 1023), 25);
        Due.refused("FULL again", x, () -> x.birth(0, 1023), FULL);
    }

    // Promise 3: "false if there is none"
    private static void endOfNone() {
        ReviveKernel x = Scene.row(2);
        for (int slot : new int[] {-1, 2, 9, 10, 11, LEAST, MOST}) {
            Due.refused("end " + slot, x, () -> x.end(slot));
        }
        Due.due("end 1", x.end(1), true);
        Due.refused("end 1 again", x, () -> x.end(1));
        Due.refused("a slot is asked for, not an endpoint", x, () -> x.end(16));
    }

    // Promise 3: "The process of a slot ENDS: true", whether it is READY or WAITS.
    private static void endOfEachState() {
        ReviveKernel x = Scene.row(5);
        x.receive(ANY, true);
        x.send(4, 1);
        x.call(0, 1);
        x.receive(4, true);
        int[] states = {Scene.READY, Scene.SENDING, Scene.AWAITING, Scene.RECEIVING, Scene.READY};
        for (int slot = 0; slot < 5; slot++) {
            Due.due("state of " + slot, x.at(slot, 1), states[slot]);
        }
        for (int slot = 0; slot < 5; slot++) {
            Due.due("end " + slot, x.end(slot), true);
            Due.due("it is there no more", x.at(slot, 0), BAD);
            Due.due("ended", x.total(5), slot + 1);
            Due.due("processes", x.total(1), 4 - slot);
        }
    }

    // Promise 4: "BAD" if there is no RUNNING.
    private static void leaveOfNone() {
        ReviveKernel x = new ReviveKernel();
        Due.refused("nobody is there", x, () -> x.leave(), BAD);
        x.birth(0, 1023);
        x.receive(ANY, true);
        Due.refused("all wait", x, () -> x.leave(), BAD);
    }

    // Promise 4: "RUNNING ENDS: its endpoint"
    private static void leaveAnswersTheEndpoint() {
        ReviveKernel x = Scene.of(2, 1, 1);
        Due.due("the first of the least row", x.leave(), 1);
        Due.due("the next of that row", x.leave(), 2);
        Due.due("birth", x.birth(0, 0), 17);
        Due.due("endpoint, not slot", x.leave(), 17);
        Due.due("the next row", x.leave(), 0);
        Due.due("ended", x.total(5), 4);
    }

    // "first it is there no more, nor are its queue": the next one in the slot has an empty one.
    private static void itsQueueIsGone() {
        ReviveKernel x = Scene.row(4);
        x.send(3, 5);
        x.call(3, 6);
        Due.due("queue", x.at(3, 5), 2);
        x.end(3);
        Due.due("the next one", x.birth(0, 1023), 19);
        Due.due("its queue", x.at(3, 5), 0);
        Due.due("it gets nothing", x.receive(ANY, false), NOTHING);
        Due.due("no message was got", x.total(2), 0);
    }

    // "nor are its .. notes": of processes, of the clock and of services.
    private static void itsNotesAreGone() {
        ReviveKernel x = Scene.of(0, 1);
        x.alarm(1);
        x.watch(0);
        x.serve(0, 3, 50);
        x.tick(1);
        x.receive(1, true);
        x.note(0);
        Due.due("1 left a note that was taken", x.running(), 0);
        x.receive(2, true);
        x.note(0);
        Due.due("notes", x.at(0, 6), 3);
        x.end(0);
        x.birth(0, 1023);
        Due.due("notes of the next one", x.at(0, 6), 0);
        Due.due("it gets nothing", x.receive(ANY, false), NOTHING);
        Due.due("notes got", x.total(3), 1);
    }

    // "nor are its .. letters": nor do they count for those that posted them.
    private static void itsLettersAreGone() {
        ReviveKernel x = Scene.of(0, 2, 3);
        x.post(1, 1);
        x.post(1, 2);
        x.post(2, 3);
        Due.refused("FULL", x, () -> x.post(2, 4), FULL);
        x.end(1);
        Due.due("one is not got yet", x.at(0, 8), 1);
        x.birth(2, 1023);
        Due.due("letters of the next one", x.at(1, 7), 0);
        Due.due("letters of the other one", x.at(2, 7), 1);
        Due.due("post", x.post(17, 5), 0);
        Due.due("post", x.post(17, 6), 0);
        Due.refused("FULL again", x, () -> x.post(17, 7), FULL);
        Due.due("letters got", x.total(4), 0);
    }

    // "nor are its .. grants"
    private static void itsGrantsAreGone() {
        ReviveKernel x = Scene.row(2);
        for (int id = 0; id < 4; id++) {
            x.lend(id, ANY, 0, 16, 3);
        }
        x.leave();
        for (int id = 0; id < 4; id++) {
            Due.due("copy of an ended one", x.copy(0, id, 0, 0, 1, false), STALE);
        }
        x.birth(0, 1023);
        for (int id = 0; id < 4; id++) {
            Due.due("grant " + id + " of the next one", x.revoke(id), NOTHING);
        }
        x.receive(ANY, true);
        for (int id = 0; id < 4; id++) {
            Due.due("copy of the next one", x.copy(16, id, 0, 0, 1, false), DENIED);
        }
    }

    // "it is there no more": an alarm that it set rings for nobody.
    private static void itsAlarmIsGone() {
        ReviveKernel x = Scene.of(1);
        x.alarm(2);
        x.leave();
        x.birth(1, 1023);
        x.tick(5);
        Due.due("no note for the next one", x.at(0, 6), 0);
        Due.due("no alarm was left", x.alarm(3), 0);
    }

    // "and the notes .. from it that were not got"
    private static void notesFromItAreGone() {
        ReviveKernel x = Scene.of(0, 0, 2, 3);
        x.note(2);
        x.note(3);
        x.receive(ANY, true);
        x.note(2);
        x.receive(ANY, true);
        Due.due("2 gets the note of 0", x.receive(0, true), 1);
        x.end(0);
        Due.due("the note that was got stays the latest", x.at(2, 10), 0);
        Due.due("and its sort", x.at(2, 11), 1);
        Due.due("the note to 3 is gone", x.at(3, 6), 0);
        Due.due("the note of 1 stays", x.at(2, 6), 1);
        x.birth(3, 1023);
        Due.due("none of the next one", x.receive(16, false), NOTHING);
        Due.due("of 1", x.receive(ANY, false), 1);
        Due.due("source", x.at(2, 10), 1);
    }

    // "the .. letters from it that were not got"
    private static void lettersFromItAreGone() {
        ReviveKernel x = Scene.of(0, 0, 2, 3);
        x.post(2, 1);
        x.post(2, 2);
        x.post(3, 3);
        x.receive(ANY, true);
        x.post(2, 4);
        x.receive(ANY, true);
        Due.due("2 gets the first", x.receive(ANY, false), 2);
        x.end(0);
        Due.due("that one stays the latest", x.at(2, 12), 1);
        Due.due("the second is gone", x.at(2, 7), 1);
        Due.due("the third is gone", x.at(3, 7), 0);
        Due.due("the letter of 1", x.receive(ANY, false), 2);
        Due.due("its value", x.at(2, 12), 4);
        Due.due("letters got", x.total(4), 2);
        x.birth(0, 1023);
        Due.due("the next one has posted none", x.at(0, 8), 0);
    }

    // A QUEUE is "of those that are SENDING to it": one that ended is in none.
    private static void itLeavesTheQueueOfAnother() {
        ReviveKernel x = Scene.row(4);
        x.send(3, 10);
        x.send(3, 11);
        x.send(3, 12);
        x.end(0);
        Due.due("queue", x.at(3, 5), 2);
        x.end(2);
        Due.due("queue", x.at(3, 5), 1);
        x.birth(3, 1023);
        Due.due("message", x.receive(ANY, true), 0);
        Due.due("of 1", x.at(3, 12), 11);
        Due.due("no other", x.receive(ANY, false), NOTHING);
    }

    // "Then those SENDING to it, RECEIVING from it or AWAITING it are READY, by slots, with result STALE."
    private static void waitersAreReadyBySlots() {
        ReviveKernel x = Scene.of(1, 1, 1, 1, 1, 3);
        Scene.letRun(x, 4);
        x.receive(5, true);
        Due.due("5 runs", x.running(), 5);
        for (int slot = 3; slot >= 0; slot--) {
            x.note(slot);
            Due.due("running", x.running(), slot);
            if (slot % 2 == 0) {
                x.send(5, slot);
            } else {
                x.call(5, slot);
                Due.due("5 gets it", x.receive(slot, true), 0);
                Due.due("AWAITING", x.at(slot, 1), Scene.AWAITING);
            }
        }
        Due.due("they wait since 4, 3, .., 0", x.at(5, 5), 2);
        x.end(5);
        for (int slot = 0; slot < 5; slot++) {
            Due.due("READY " + slot, x.at(slot, 1), Scene.READY);
            Due.due("by slots " + slot, x.at(slot, 9), slot);
            Due.due("STALE " + slot, x.at(slot, 13), STALE);
            Due.due("whom " + slot, x.at(slot, 2), slot);
        }
    }

    // Those that wait for another one, or for ANY, wait on.
    private static void onlyItsOwnWaitersAreReady() {
        ReviveKernel x = Scene.row(6);
        x.receive(ANY, true);
        x.receive(4, true);
        x.send(4, 1);
        x.call(0, 1);
        Due.due("3 awaits 0", x.at(3, 1), Scene.AWAITING);
        x.send(1, 1);
        x.end(5);
        int[] states = {Scene.READY, Scene.READY, Scene.SENDING, Scene.AWAITING, Scene.READY};
        for (int slot = 0; slot < 5; slot++) {
            Due.due("state of " + slot, x.at(slot, 1), states[slot]);
            Due.due("result of " + slot, x.at(slot, 13), 0);
        }
        x.end(4);
        Due.due("2 sent to it", x.at(2, 13), STALE);
        Due.due("3 awaits on", x.at(3, 1), Scene.AWAITING);
        Due.due("with 0", x.at(3, 13), 0);
        Due.due("a READY one has no result of it", x.at(0, 13), 0);
    }

    // "It watches nothing"
    private static void itWatchesNothing() {
        ReviveKernel x = Scene.of(0);
        for (int k = 0; k < 3; k++) {
            x.watch(k);
            x.serve(k, 3, 50);
        }
        x.leave();
        x.birth(0, 1023);
        Due.due("all begin", x.tick(1), 3);
        Due.due("no note for the next one in the slot", x.at(0, 6), 0);
    }

    // "if it was that of a service, this is DOWN"
    private static void itsServiceIsDown() {
        ReviveKernel x = new ReviveKernel();
        for (int k = 0; k < 3; k++) {
            x.serve(k, k, 50);
        }
        x.tick(1);
        x.end(1);
        for (int k = 0; k < 3; k++) {
            Due.due("service " + k, x.service(k, 0), k == 1 ? 2 : 1);
            Due.due("endpoint " + k, x.service(k, 1), k == 1 ? -1 : k);
        }
        x.leave();
        Due.due("who leaves", x.service(0, 0), 2);
        x.birth(0, 1023);
        Due.due("another one in its slot is not its process", x.service(0, 1), -1);
        x.end(0);
        Due.due("nor does that one's end count", x.service(0, 2), 2);
    }

    // Promise 20: "A word of a process's memory gets a value: true; false if there is none."
    private static void pokeNumbers() {
        ReviveKernel x = Scene.row(2);
        for (int slot : new int[] {-1, 2, 9, 10, 16, LEAST, MOST}) {
            Due.refused("poke slot " + slot, x, () -> x.poke(slot, 0, 7));
        }
        for (int a : new int[] {-1, 16, 17, -16, LEAST, MOST}) {
            Due.refused("poke word " + a, x, () -> x.poke(1, a, 7));
            Due.refused("poke word " + a, x, () -> x.poke(0, a, 7));
        }
        for (int value : new int[] {LEAST, MOST, -1, 1, 0}) {
            Due.due("first word", x.poke(0, 0, value), true);
            Due.due("last word", x.poke(1, 15, value), true);
            Due.due("first word", x.memory(0, 0), value);
            Due.due("last word", x.memory(1, 15), value);
            Due.due("the next one's word", x.memory(1, 0), 0);
            Due.due("the word before", x.memory(0, 15), 0);
        }
        x.receive(ANY, true);
        Due.due("of one that waits", x.poke(0, 3, 5), true);
        Due.due("its word", x.memory(0, 3), 5);
    }

    // Promise 21: "That word; 0 if there is none."
    private static void memoryNumbers() {
        ReviveKernel x = Scene.row(10);
        Scene.fillMemory(x);
        for (int slot = 0; slot < 10; slot++) {
            Due.due("first word of " + slot, x.memory(slot, 0), 100 * slot + 1);
            Due.due("last word of " + slot, x.memory(slot, 15), 100 * slot + 16);
            for (int a : new int[] {-1, 16, 32, LEAST, MOST}) {
                Due.due("word " + a + " of " + slot, x.memory(slot, a), 0);
            }
        }
        for (int slot : new int[] {-1, 10, LEAST, MOST}) {
            Due.due("of slot " + slot, x.memory(slot, 0), 0);
        }
        x.end(9);
        Due.due("of an ended one", x.memory(9, 15), 0);
    }

    // Promise 22: "NOTHING if there is none"
    private static void runningOfNone() {
        ReviveKernel x = new ReviveKernel();
        Due.due("nobody is there", x.running(), NOTHING);
        x.birth(3, 1023);
        Due.due("the last row", x.running(), 0);
        x.receive(ANY, true);
        Due.due("all wait", x.running(), NOTHING);
        x.birth(3, 1023);
        x.end(0);
        x.birth(2, 1023);
        Due.due("the endpoint, not the slot", x.running(), 16);
        x.end(0);
        x.end(1);
        Due.due("all ended", x.running(), NOTHING);
    }
}
