/** The edges that the document names in promises 15 to 19 and 24 (and of serve, in 26), a method for each. */
public final class EdgesOfServicesTest {
    private static final int BAD = ReviveKernel.BAD, BLOCKED = ReviveKernel.BLOCKED, STALE = ReviveKernel.STALE;
    private static final int NOTHING = ReviveKernel.NOTHING, FULL = ReviveKernel.FULL;
    private static final int ANY = Scene.ANY, LEAST = Scene.LEAST, MOST = Scene.MOST;
    private static final int ABSENT = 0, THERE = 1, DOWN = 2;

    public static void main(String[] args) {
        beatOfNobody();
        beatOfNoService();
        beatTellsTheService();
        watchOfNobody();
        watchNumbers();
        watchFromNowOn();
        watchWhenever();
        watchersTakeOrHave();
        watchersBySlots();
        whoBeginsIsThereBeforeTheNotes();
        serveNumbers();
        serveWhenThere();
        serveBadBeforeFull();
        beginsAtTheNextTick();
        processesOfThisBase();
        maskOfAllSlots();
        closeOfNone();
        closeInEachState();
        itsProcessStays();
        servedAnew();
        silentForLifeTicks();
        beatWithinLifeTicks();
        beatAtTheTickOfBirth();
        endedByTick();
        noSlotIsFree();
        aSlotFreedInTheSameTick();
        dueAfterThePause();
        pauseDoublesToEight();
        sixteenTicksOrMore();
        pauseWhileNoSlotIsFree();
        howManyBegan();
        alarmsThenServices();
        agingThenServices();
        serviceNumbers();
        serviceOfNone();
        serviceInEachState();
        Due.close("EdgesOfServicesTest");
    }

    /** Service k of base 1, begun, in an object without other processes. */
    private static ReviveKernel begun(int k, int life) {
        ReviveKernel x = new ReviveKernel();
        x.serve(k, 1, life);
        Due.due("it begins", x.tick(1), 1);
        return x;
    }

    // "BAD if there is none"
    private static void beatOfNobody() {
        ReviveKernel x = new ReviveKernel();
        Due.refused("nobody is there", x, () -> x.beat(), BAD);
        x.serve(0, 1, 50);
        Due.refused("it has not begun", x, () -> x.beat(), BAD);
        x.tick(1);
        x.receive(ANY, true);
        Due.refused("its process waits", x, () -> x.beat(), BAD);
    }

    // Promise 15: "NOTHING if it is none"
    private static void beatOfNoService() {
        ReviveKernel x = begun(1, 10);
        x.birth(0, 1023);
        Due.refused("another process", x, () -> x.beat(), NOTHING);
        x.leave();
        Due.due("the service's", x.beat(), 1);
        x.close(1);
        Due.refused("of a closed one", x, () -> x.beat(), NOTHING);
        x.serve(1, 1, 10);
        Due.refused("of the one before it was served anew", x, () -> x.beat(), NOTHING);
        x.end(0);
        x.birth(1, 1023);
        Due.refused("another one in the slot of before", x, () -> x.beat(), NOTHING);
        ReviveKernel y = begun(0, 10);
        y.end(0);
        y.birth(1, 1023);
        Due.refused("in the slot of one that is DOWN", y, () -> y.beat(), NOTHING);
    }

    private static void beatTellsTheService() {
        ReviveKernel x = new ReviveKernel();
        for (int k = 0; k < 3; k++) {
            x.serve(k, k, 50);
        }
        x.tick(1);
        for (int k = 0; k < 3; k++) {
            Due.due("the service", x.beat(), k);
            Due.due("again", x.beat(), k);
            x.receive(ANY, true);
        }
    }

    private static void watchOfNobody() {
        ReviveKernel x = new ReviveKernel();
        Due.refused("nobody is there", x, () -> x.watch(0), BAD);
        x.birth(1, 1023);
        x.receive(ANY, true);
        Due.refused("all wait", x, () -> x.watch(0), BAD);
        x.serve(0, 3, 50);
        x.tick(1);
        Due.due("it did not watch", x.at(0, 1), Scene.RECEIVING);
    }

    // Promise 16: "service k (0 .. 2)"
    private static void watchNumbers() {
        ReviveKernel x = Scene.row(1);
        for (int k : new int[] {-1, 3, 4, 32, LEAST, MOST}) {
            Due.refused("watch " + k, x, () -> x.watch(k), BAD);
        }
        for (int k = 0; k < 3; k++) {
            x.serve(k, 3, 50);
        }
        x.tick(1);
        Due.due("none was watched", x.at(0, 6), 0);
        for (int k = 0; k < 3; k++) {
            Due.due("watch " + k, x.watch(k), 0);
            x.end(k + 1);
            x.tick(1);
            Due.due("a note", x.receive(ANY, true), 1);
            Due.due("of service " + k, x.at(0, 10), -3 - k);
            Due.due("sort", x.at(0, 11), 1);
            Due.due("value", x.at(0, 12), 0);
            Due.due("no other", x.receive(ANY, false), NOTHING);
        }
    }

    // Promise 16: "from now on": not of a beginning before.
    private static void watchFromNowOn() {
        ReviveKernel x = Scene.row(1);
        x.serve(0, 3, 50);
        x.tick(1);
        Due.due("watch one that began", x.watch(0), 0);
        Due.due("no note of that", x.at(0, 6), 0);
        x.tick(5);
        Due.due("none while it is there", x.at(0, 6), 0);
        x.end(1);
        Due.due("none of its end", x.at(0, 6), 0);
        x.tick(1);
        Due.due("one of its beginning anew", x.at(0, 6), 1);
    }

    // Promise 16: "whenever that begins"; one note of a source at most.
    private static void watchWhenever() {
        ReviveKernel x = Scene.row(1);
        Due.due("one that is none", x.watch(2), 0);
        Due.due("watch twice", x.watch(2), 0);
        x.serve(2, 3, 2);
        x.tick(1);
        Due.due("first beginning", x.at(0, 6), 1);
        x.tick(5);
        Due.due("it began at 1 and 4", x.service(2, 3), 2);
        Due.due("one note", x.at(0, 6), 1);
        Due.due("get it", x.receive(ANY, true), 1);
        Due.due("only one", x.receive(ANY, false), NOTHING);
        x.tick(2);
        Due.due("at 8 it begins a third time", x.service(2, 3), 3);
        Due.due("again a note", x.receive(ANY, false), 1);
        x.close(2);
        x.serve(2, 3, 50);
        x.tick(1);
        Due.due("a service of that number, served anew", x.receive(ANY, false), 1);
        Due.due("of", x.at(0, 10), -5);
    }

    // "those that watch it have a note", taken by one RECEIVING from ANY alone.
    private static void watchersTakeOrHave() {
        ReviveKernel x = Scene.row(6);
        for (int slot = 0; slot < 5; slot++) {
            x.watch(0);
            switch (slot) {
                case 0: x.receive(ANY, true); break;
                case 1: x.receive(5, true); break;
                case 2: x.send(5, 1); break;
                case 3: x.call(5, 1); break;
                default: x.receive(3, true); break;
            }
        }
        x.watch(0);
        Due.due("5 gets the call", x.receive(3, true), 0);
        x.serve(0, 3, 50);
        Due.due("it begins", x.tick(1), 1);
        int[] states = {Scene.READY, Scene.RECEIVING, Scene.SENDING, Scene.AWAITING, Scene.RECEIVING, Scene.READY};
        for (int slot = 0; slot < 6; slot++) {
            Due.due("state of " + slot, x.at(slot, 1), states[slot]);
            Due.due("notes of " + slot, x.at(slot, 6), slot == 0 ? 0 : 1);
        }
        Due.due("0 took it", x.at(0, 10), -3);
        Due.due("sort", x.at(0, 11), 1);
        Due.due("value", x.at(0, 12), 0);
        Due.due("result", x.at(0, 13), 0);
        Due.due("notes got", x.total(3), 1);
    }

    // "have a note, by slots"
    private static void watchersBySlots() {
        ReviveKernel x = Scene.of(1, 1, 1, 1, 3);
        Scene.letRun(x, 4);
        for (int slot = 3; slot >= 0; slot--) {
            x.note(slot);
            x.watch(1);
            x.receive(ANY, true);
        }
        x.serve(1, 3, 50);
        x.tick(1);
        for (int slot = 0; slot < 4; slot++) {
            Due.due("by slots " + slot, x.at(slot, 9), slot);
        }
    }

    // "a process begins, and those that watch it have a note"
    private static void whoBeginsIsThereBeforeTheNotes() {
        ReviveKernel x = Scene.of(1);
        x.watch(0);
        x.receive(ANY, true);
        x.serve(0, 1, 50);
        x.tick(1);
        Due.due("the new one is the first of the row", x.running(), 1);
        Due.due("the one that watches behind it", x.at(0, 9), 1);
    }

    // Promise 17: "service k", base 0 .. 3, "life (2 .. 50)": "BAD if a number is not as said"
    private static void serveNumbers() {
        ReviveKernel x = new ReviveKernel();
        for (int k : new int[] {-1, 3, 4, LEAST, MOST}) {
            Due.refused("service " + k, x, () -> x.serve(k, 1, 10), BAD);
        }
        for (int base : new int[] {-1, 4, 5, LEAST, MOST}) {
            Due.refused("base " + base, x, () -> x.serve(0, base, 10), BAD);
        }
        for (int life : new int[] {1, 0, -1, 51, 52, LEAST, MOST}) {
            Due.refused("life " + life, x, () -> x.serve(0, 1, life), BAD);
        }
        Due.due("none begins", x.tick(3), 0);
        Due.due("the least numbers", x.serve(0, 0, 2), 0);
        Due.due("the greatest", x.serve(2, 3, 50), 0);
        Due.due("both begin", x.tick(1), 2);
    }

    // Promise 17: "FULL if it is there"; promise 26: "FULL also if the service is DOWN."
    private static void serveWhenThere() {
        ReviveKernel x = new ReviveKernel();
        x.serve(1, 1, 50);
        Due.refused("before it begins", x, () -> x.serve(1, 2, 3), FULL);
        x.tick(1);
        Due.refused("there", x, () -> x.serve(1, 2, 3), FULL);
        x.end(0);
        Due.refused("DOWN", x, () -> x.serve(1, 2, 3), FULL);
        Due.due("the others are not", x.serve(0, 0, 2) + x.serve(2, 0, 2), 0);
        x.close(1);
        Due.due("closed", x.serve(1, 2, 3), 0);
    }

    // Promise 26: "BAD is tested before FULL."
    private static void serveBadBeforeFull() {
        ReviveKernel x = new ReviveKernel();
        x.serve(0, 1, 50);
        for (int i = 0; i < 3; i++) {
            Due.refused("base", x, () -> x.serve(0, 4, 10), BAD);
            Due.refused("base", x, () -> x.serve(0, -1, 10), BAD);
            Due.refused("life", x, () -> x.serve(0, 1, 1), BAD);
            Due.refused("life", x, () -> x.serve(0, 1, 51), BAD);
            Due.refused("all as said", x, () -> x.serve(0, 1, 2), FULL);
            if (i == 0) {
                x.tick(1);
            } else {
                x.end(0);
            }
        }
        x.tick(1);
        Due.due("a refused serve leaves base and life", x.at(0, 3), 1);
        x.tick(49);
        Due.due("life", x.service(0, 0), THERE);
        x.tick(1);
        Due.due("life", x.service(0, 0), DOWN);
    }

    // Promise 17: "Service k begins at the next tick"
    private static void beginsAtTheNextTick() {
        for (int before : new int[] {1, 7, 8, 100}) {
            ReviveKernel x = new ReviveKernel();
            x.tick(before);
            Due.due("serve", x.serve(0, 2, 10), 0);
            Due.due("no process yet", x.total(1), 0);
            Due.due("no endpoint yet", x.service(0, 1), -1);
            Due.due("it never began", x.service(0, 3), 0);
            Due.due("next tick", x.tick(1), 1);
            Due.due("a process", x.total(1), 1);
            Due.due("endpoint", x.service(0, 1), 0);
            Due.due("it began", x.service(0, 3), 1);
            Due.due("PAUSE 1", x.service(0, 2), 1);
        }
    }

    // Promise 17: "with processes of this base": each time.
    private static void processesOfThisBase() {
        for (int base = 0; base <= 3; base++) {
            ReviveKernel x = new ReviveKernel();
            x.serve(0, base, 50);
            for (int i = 0; i < 3; i++) {
                x.tick(8);
                Due.due("PRIORITY is at its base or above", x.at(0, 3) >= base, true);
                x.receive(ANY, true);
                x.tick(24);
                Due.due("and falls to it", x.at(0, 3), base);
                x.end(0);
            }
            x.tick(1);
            Due.due("PRIORITY at first", x.at(0, 3), base);
            Due.due("TICKS at first", x.at(0, 4), 4);
            Due.due("READY", x.at(0, 1), Scene.READY);
        }
    }

    // Promise 17: "and MASK all slots"
    private static void maskOfAllSlots() {
        ReviveKernel x = new ReviveKernel();
        for (int slot = 0; slot < 4; slot++) {
            x.birth(2, 0);
        }
        x.serve(0, 0, 50);
        x.tick(1);
        Due.due("it runs, in slot 4", x.running(), 4);
        for (int slot = 5; slot < 10; slot++) {
            x.birth(2, 0);
        }
        for (int slot = 0; slot < 10; slot++) {
            Due.due("note to " + slot, x.note(slot), slot == 4 ? BAD : 0);
        }
        x.end(4);
        x.tick(1);
        Due.due("so has the next one", x.note(9), 0);
    }

    // Promise 18: "false if there is none"
    private static void closeOfNone() {
        ReviveKernel x = begun(1, 50);
        for (int k : new int[] {-1, 0, 2, 3, LEAST, MOST}) {
            Due.refused("close " + k, x, () -> x.close(k));
        }
        Due.due("close 1", x.close(1), true);
        Due.refused("close 1 again", x, () -> x.close(1));
    }

    // Promise 18: "Service k is no more"
    private static void closeInEachState() {
        ReviveKernel x = new ReviveKernel();
        x.serve(0, 1, 10);
        Due.due("before it begins", x.close(0), true);
        Due.due("none begins", x.tick(3), 0);
        x.serve(0, 1, 10);
        x.tick(1);
        x.end(0);
        Due.due("while DOWN", x.close(0), true);
        Due.due("none begins", x.tick(20), 0);
        x.serve(0, 1, 10);
        x.tick(1);
        Due.due("while there", x.close(0), true);
        Due.due("none", x.service(0, 0), ABSENT);
        Due.due("no endpoint", x.service(0, 1), BAD);
        Due.due("none begins", x.tick(20), 0);
    }

    // Promise 18: "its process, if any, stays": it need not beat, and its end begins nothing.
    private static void itsProcessStays() {
        ReviveKernel x = begun(0, 2);
        x.receive(ANY, true);
        x.close(0);
        x.tick(100);
        Due.due("it is there", x.at(0, 1), Scene.RECEIVING);
        Due.due("nobody ended", x.total(5), 0);
        x.end(0);
        Due.due("nothing begins", x.tick(100), 0);
        Due.due("no service", x.service(0, 0), ABSENT);
    }

    private static void servedAnew() {
        ReviveKernel x = begun(0, 50);
        x.end(0);
        x.tick(1);
        x.end(0);
        Due.due("PAUSE", x.service(0, 2), 4);
        x.close(0);
        Due.due("serve", x.serve(0, 2, 3), 0);
        Due.due("PAUSE 1", x.service(0, 2), 1);
        Due.due("it never began", x.service(0, 3), 0);
        Due.due("next tick, whatever the old pause", x.tick(1), 1);
        Due.due("the new base", x.at(0, 3), 2);
        Due.due("endpoint", x.service(0, 1), 32);
        x.tick(2);
        Due.due("the new life", x.service(0, 0), THERE);
        x.tick(1);
        Due.due("the new life", x.service(0, 0), DOWN);

        ReviveKernel y = begun(0, 50);
        y.close(0);
        y.serve(0, 1, 50);
        Due.due("two processes then", y.tick(1), 1);
        Due.due("its own is the second", y.service(0, 1), 1);
        y.end(0);
        Due.due("the first one's end is not its own", y.service(0, 0), THERE);
        y.end(1);
        Due.due("the second one's is", y.service(0, 0), DOWN);
    }

    // Promise 19: "one whose process was not born, nor did beat, in the latest life ticks (this one too): it ENDS"
    private static void silentForLifeTicks() {
        for (int life : new int[] {2, 3, 8, 16, 49, 50}) {
            ReviveKernel x = begun(0, life);
            x.tick(life - 1);
            Due.due("born within the latest " + life + " ticks", x.service(0, 1), 0);
            Due.due("nobody ended", x.total(5), 0);
            Due.due("none begins", x.tick(1), 0);
            Due.due("not born within them", x.service(0, 0), DOWN);
            Due.due("one ended", x.total(5), 1);
            Due.due("no process", x.total(1), 0);
        }
    }

    // Promise 17: "which must beat() within life .. ticks"
    private static void beatWithinLifeTicks() {
        for (int life : new int[] {2, 3, 8, 49, 50}) {
            ReviveKernel x = begun(0, life);
            for (int i = 0; i < 4; i++) {
                x.tick(life - 1);
                Due.due("beat at the last time", x.beat(), 0);
            }
            x.tick(life - 1);
            Due.due("there", x.service(0, 0), THERE);
            Due.due("began once", x.service(0, 3), 1);
            x.tick(1);
            Due.due("silent", x.service(0, 0), DOWN);
        }
    }

    private static void beatAtTheTickOfBirth() {
        ReviveKernel x = begun(0, 5);
        Due.due("beat at once", x.beat(), 0);
        x.tick(4);
        Due.due("that is as its birth", x.service(0, 0), THERE);
        x.tick(1);
        Due.due("silent", x.service(0, 0), DOWN);
        x.tick(1);
        Due.due("its next process was born later", x.service(0, 0), THERE);
        x.tick(4);
        Due.due("there", x.service(0, 0), THERE);
        x.tick(1);
        Due.due("silent", x.service(0, 0), DOWN);
    }

    // "it ENDS": with all that belongs to it.
    private static void endedByTick() {
        ReviveKernel x = Scene.of(2, 2, 2);
        x.serve(0, 3, 2);
        x.tick(1);
        x.send(3, 1);
        x.receive(3, true);
        x.note(3);
        x.post(3, 1);
        Due.due("letters not got", x.at(2, 8), 1);
        x.tick(2);
        Due.due("who sent to it", x.at(0, 13), STALE);
        Due.due("who received from it", x.at(1, 13), STALE);
        Due.due("letters not got", x.at(2, 8), 0);
        Due.due("ended", x.total(5), 1);
        x.tick(1);
        Due.due("the next one has no notes", x.at(3, 6), 0);
        Due.due("no letters", x.at(3, 7), 0);
        Due.due("no queue", x.at(3, 5), 0);
        Due.due("its endpoint", x.service(0, 1), 19);
    }

    // Promise 19: "if a slot is free"
    private static void noSlotIsFree() {
        ReviveKernel x = Scene.row(10);
        x.watch(0);
        x.serve(0, 0, 50);
        Due.due("none begins", x.tick(20), 0);
        Due.due("it is due still", x.service(0, 0), DOWN);
        Due.due("it never began", x.service(0, 3), 0);
        Due.due("PAUSE", x.service(0, 2), 1);
        Due.due("no note", x.at(0, 6), 0);
        x.end(9);
        Due.due("the last slot", x.tick(1), 1);
        Due.due("endpoint", x.service(0, 1), 25);
        Due.due("a note", x.at(0, 6), 1);
        x.end(9);
        x.birth(3, 1023);
        Due.due("its slot was taken", x.tick(5), 0);
        x.end(0);
        Due.due("another slot", x.tick(1), 1);
        Due.due("endpoint", x.service(0, 1), 16);
    }

    // "Then services 0 .. 2": a slot that an earlier one leaves is free for a later one.
    private static void aSlotFreedInTheSameTick() {
        ReviveKernel x = begun(0, 3);
        for (int slot = 1; slot < 10; slot++) {
            x.birth(3, 1023);
        }
        x.serve(1, 3, 50);
        Due.due("none yet", x.tick(2), 0);
        Due.due("service 0 ends, service 1 begins", x.tick(1), 1);
        Due.due("service 0", x.service(0, 0), DOWN);
        Due.due("service 1", x.service(1, 1), 16);
        Due.due("no slot for service 0", x.tick(5), 0);
    }

    // Promise 19: "DOWN it is due at that time + PAUSE"
    private static void dueAfterThePause() {
        ReviveKernel x = begun(0, 50);
        int[] pauses = {1, 2, 4, 8, 8};
        for (int pause : pauses) {
            x.tick(1);
            x.end(0);
            for (int i = 1; i < pause; i++) {
                Due.due("tick " + i + " of " + pause, x.tick(1), 0);
            }
            Due.due("tick " + pause, x.tick(1), 1);
        }
        ReviveKernel y = begun(0, 2);
        // Ended by a tick it is due at that tick's time + PAUSE.
        for (int pause : pauses) {
            Due.due("silent", y.tick(2), 0);
            Due.due("DOWN", y.service(0, 0), DOWN);
            if (pause > 1) {
                Due.due("not yet", y.tick(pause - 1), 0);
            }
            Due.due("due", y.tick(1), 1);
        }
    }

    // Promise 19: "then PAUSE doubles, to 8 at most"
    private static void pauseDoublesToEight() {
        ReviveKernel x = begun(0, 50);
        Due.due("PAUSE at first", x.service(0, 2), 1);
        for (int pause : new int[] {2, 4, 8, 8, 8, 8}) {
            x.end(0);
            Due.due("PAUSE", x.service(0, 2), pause);
            x.tick(8);
            Due.due("it stays while it is there", x.service(0, 2), pause);
        }
        x.serve(1, 1, 50);
        Due.due("each service has its own", x.service(1, 2), 1);
    }

    // Promise 19: "PAUSE is 1 first if the process was there 16 ticks or more"
    private static void sixteenTicksOrMore() {
        for (int there : new int[] {0, 1, 14, 15, 16, 17, 18, 30, 32, 49}) {
            ReviveKernel x = begun(0, 50);
            for (int pause = 1; pause <= 2; pause *= 2) {
                x.end(0);
                x.tick(pause);
            }
            Due.due("PAUSE", x.service(0, 2), 4);
            if (there > 0) {
                x.tick(there);
            }
            x.end(0);
            boolean steady = there >= 16;
            Due.due("PAUSE after " + there + " ticks", x.service(0, 2), steady ? 2 : 8);
            if (!steady) {
                Due.due("due after 4", x.tick(3), 0);
            }
            Due.due("due after " + (steady ? 1 : 4), x.tick(1), 1);
        }
        for (int life : new int[] {15, 16, 17, 50}) {
            ReviveKernel x = begun(0, life);
            for (int pause = 1; pause <= 2; pause *= 2) {
                x.end(0);
                x.tick(pause);
            }
            x.tick(life);
            Due.due("ended by a tick after " + life, x.service(0, 2), life >= 16 ? 2 : 8);
        }
        // Beats make it no younger.
        ReviveKernel y = begun(0, 10);
        y.end(0);
        y.tick(1);
        y.tick(8);
        y.beat();
        y.tick(8);
        y.beat();
        y.end(0);
        Due.due("there for 16 ticks with beats", y.service(0, 2), 2);
    }

    // The time while it is due and no slot is free is no time that its process was there.
    private static void pauseWhileNoSlotIsFree() {
        ReviveKernel x = begun(0, 50);
        x.end(0);
        for (int slot = 0; slot < 10; slot++) {
            x.birth(3, 1023);
        }
        Due.due("no slot", x.tick(40), 0);
        Due.due("PAUSE", x.service(0, 2), 2);
        x.end(4);
        Due.due("it begins", x.tick(1), 1);
        x.end(4);
        Due.due("PAUSE doubles", x.service(0, 2), 4);
        Due.due("due after 2", x.tick(1), 0);
        Due.due("due after 2", x.tick(1), 1);
    }

    // Promise 19: "how many services began"
    private static void howManyBegan() {
        ReviveKernel x = new ReviveKernel();
        Due.due("none", x.tick(1), 0);
        x.serve(0, 1, 50);
        x.serve(2, 1, 50);
        Due.due("two", x.tick(1), 2);
        x.serve(1, 1, 50);
        Due.due("one", x.tick(1), 1);
        Due.due("none", x.tick(1), 0);
        ReviveKernel y = new ReviveKernel();
        y.serve(0, 1, 2);
        // It is there at 1 and 2, DOWN for 1, 2, 4, 8 and then always 8: it begins at 1, 4, 8, 14, 24, 34, .., 94.
        Due.due("in a hundred ticks", y.tick(100), 12);
        Due.due("as often as it began", y.service(0, 3), 12);
    }

    // Promise 19: alarms, "Then services": who is woken stands before the process that begins.
    private static void alarmsThenServices() {
        ReviveKernel x = Scene.of(1, 1);
        x.alarm(1);
        x.receive(ANY, true);
        x.watch(0);
        x.alarm(1);
        x.receive(ANY, true);
        x.serve(0, 1, 50);
        x.tick(1);
        Due.due("0 was woken first", x.at(0, 9), 0);
        Due.due("then 1, by the clock", x.at(1, 9), 1);
        Due.due("then the service's", x.at(2, 9), 2);
        Due.due("1 got the clock's note", x.at(1, 10), -2);
        Due.due("and has the service's", x.at(1, 6), 1);
    }

    // "RUNNING has one tick less": the one that ran before the services begin.
    private static void agingThenServices() {
        ReviveKernel x = Scene.of(3);
        x.serve(0, 0, 50);
        x.tick(1);
        Due.due("0 ran", x.at(0, 4), 3);
        Due.due("the service's process has all its ticks", x.at(1, 4), 4);
        x.tick(1);
        Due.due("now that one runs", x.at(1, 4), 3);
        ReviveKernel y = new ReviveKernel();
        y.tick(7);
        y.serve(0, 0, 50);
        y.tick(1);
        Due.due("born at an eighth tick", y.at(0, 3), 0);
        Due.due("BLOCKED", y.receive(ANY, true), BLOCKED);
    }

    // Promise 24: "BAD if there is no such k, or for others"
    private static void serviceNumbers() {
        ReviveKernel x = new ReviveKernel();
        for (int k = 0; k < 3; k++) {
            x.serve(k, 1, 50);
        }
        x.tick(1);
        for (int k : new int[] {-1, 3, 4, LEAST, MOST}) {
            for (int what = -1; what <= 4; what++) {
                Due.due("service " + k + ", " + what, x.service(k, what), BAD);
            }
        }
        for (int k = 0; k < 3; k++) {
            for (int what : new int[] {-1, 4, 5, LEAST, MOST}) {
                Due.due("service " + k + ", " + what, x.service(k, what), BAD);
            }
            int[] due = {THERE, k, 1, 1};
            for (int what = 0; what < 4; what++) {
                Due.due("service " + k + ", " + what, x.service(k, what), due[what]);
            }
        }
    }

    // Promise 24: "(1 .. 3 also if it is none)"
    private static void serviceOfNone() {
        ReviveKernel x = begun(1, 50);
        x.close(1);
        for (int k = 0; k < 3; k++) {
            Due.due("none", x.service(k, 0), ABSENT);
            for (int what : new int[] {-1, 1, 2, 3, 4, LEAST, MOST}) {
                Due.due("what " + what + " of none", x.service(k, what), BAD);
            }
        }
    }

    // Promise 24: "0 none, 1 there, 2 DOWN, 1: endpoint of its process (-1 none), 2: PAUSE, 3: how often it began"
    private static void serviceInEachState() {
        ReviveKernel x = new ReviveKernel();
        x.serve(2, 1, 50);
        int[][] due = {{DOWN, -1, 1, 0}, {THERE, 0, 1, 1}, {DOWN, -1, 2, 1}, {THERE, 16, 2, 2}};
        for (int step = 0; step < due.length; step++) {
            for (int what = 0; what < 4; what++) {
                Due.due("step " + step + ", what " + what, x.service(2, what), due[step][what]);
            }
            if (step == 1) {
                x.end(0);
            } else {
                x.tick(1);
            }
        }
    }
}
