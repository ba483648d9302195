/** The edges that the document names in promises 14 and 19 (and of tick, in 26), but for services, a method for each. */
public final class EdgesOfTimeTest {
    private static final int BAD = ReviveKernel.BAD, BLOCKED = ReviveKernel.BLOCKED, NOTHING = ReviveKernel.NOTHING;
    private static final int ANY = Scene.ANY, LEAST = Scene.LEAST, MOST = Scene.MOST;

    public static void main(String[] args) {
        alarmOfNobody();
        alarmNumbers();
        alarmInEachNumberOfTicks();
        alarmNoMore();
        alarmLeftBefore();
        alarmAfterItRang();
        oneNoteOfTheClock();
        alarmIsOfEachProcess();
        alarmTakenOrThere();
        alarmsBySlots();
        alarmsRingWhileNobodyRuns();
        tickNumbers();
        ticksOneByOneOrAtOnce();
        fourthTick();
        fourthTickOfTheLastRow();
        ticksOfRunningAlone();
        ticksAreKept();
        eighthTick();
        notBelowItsBase();
        eachEighthTick();
        relievedBySlots();
        relievedOnesComeLast();
        baseOnesKeepTheirPlaces();
        waitingOnesToo();
        reliefLeavesTicks();
        reliefLeavesQueues();
        fourthAndEighthAtOnce();
        reliefThenAlarms();
        Due.close("EdgesOfTimeTest");
    }

    // "BAD if there is none"
    private static void alarmOfNobody() {
        ReviveKernel x = new ReviveKernel();
        Due.refused("nobody is there", x, () -> x.alarm(1), BAD);
        Due.refused("nobody is there", x, () -> x.alarm(0), BAD);
        x.birth(1, 1023);
        x.alarm(5);
        x.receive(ANY, true);
        Due.refused("all wait", x, () -> x.alarm(1), BAD);
        Due.refused("all wait", x, () -> x.alarm(0), BAD);
    }

    // Promise 14: "In n ticks (1 .. 100)", or 0
    private static void alarmNumbers() {
        ReviveKernel x = Scene.row(1);
        for (int n : new int[] {-1, 101, 102, LEAST, MOST}) {
            Due.refused("alarm " + n, x, () -> x.alarm(n), BAD);
        }
        Due.due("alarm 7", x.alarm(7), 0);
        for (int n : new int[] {-1, 101, LEAST, MOST}) {
            Due.refused("the alarm stays at " + n, x, () -> x.alarm(n), BAD);
        }
        Due.due("alarm 100", x.alarm(100), 7);
        Due.due("alarm 1", x.alarm(1), 100);
        Due.due("alarm 0", x.alarm(0), 1);
    }

    private static void alarmInEachNumberOfTicks() {
        for (int n : new int[] {1, 2, 7, 8, 9, 50, 99, 100}) {
            ReviveKernel x = Scene.row(1);
            x.tick(3);
            x.alarm(n);
            for (int i = 1; i < n; i++) {
                x.tick(1);
                Due.due("left", x.at(0, 14), n - i);
                Due.due("no note at " + i + " of " + n, x.at(0, 6), 0);
            }
            x.tick(1);
            Due.due("note at " + n, x.at(0, 6), 1);
            Due.due("none left", x.at(0, 14), 0);
        }
    }

    // Promise 14: "0: no more"
    private static void alarmNoMore() {
        ReviveKernel x = Scene.row(1);
        Due.due("none was set", x.alarm(0), 0);
        x.alarm(3);
        x.tick(2);
        Due.due("one was left", x.alarm(0), 1);
        Due.due("none is left", x.at(0, 14), 0);
        x.tick(100);
        Due.due("it does not ring", x.at(0, 6), 0);
        x.alarm(1);
        x.tick(1);
        Due.due("no more is not said of a note that is there", x.alarm(0), 0);
        Due.due("the note stays", x.at(0, 6), 1);
    }

    // Promise 14: "how many ticks were left before (0 if none)"
    private static void alarmLeftBefore() {
        ReviveKernel x = Scene.row(1);
        Due.due("none", x.alarm(100), 0);
        Due.due("all of it", x.alarm(100), 100);
        x.tick(99);
        Due.due("one", x.alarm(10), 1);
        x.tick(1);
        Due.due("the old one does not ring", x.at(0, 6), 0);
        Due.due("nine", x.alarm(2), 9);
        x.tick(2);
        Due.due("the new one does", x.at(0, 6), 1);
        Due.due("none", x.alarm(5), 0);
    }

    private static void alarmAfterItRang() {
        ReviveKernel x = Scene.row(1);
        x.alarm(2);
        x.tick(2);
        Due.due("a note", x.receive(ANY, false), 1);
        Due.due("of the clock", x.at(0, 10), -2);
        Due.due("value", x.at(0, 12), 0);
        x.tick(100);
        Due.due("it rings once", x.receive(ANY, false), NOTHING);
    }

    // "Each process has NOTES, one of a source at most": the clock is one source.
    private static void oneNoteOfTheClock() {
        ReviveKernel x = Scene.row(1);
        for (int i = 0; i < 3; i++) {
            x.alarm(1);
            x.tick(1);
            Due.due("one note", x.at(0, 6), 1);
        }
        Due.due("get it", x.receive(ANY, true), 1);
        Due.due("no second one", x.receive(ANY, false), NOTHING);
        Due.due("notes got", x.total(3), 1);
    }

    private static void alarmIsOfEachProcess() {
        ReviveKernel x = Scene.row(10);
        for (int slot = 0; slot < 10; slot++) {
            Due.due("none of its own", x.alarm(10 - slot), 0);
            x.receive(ANY, true);
        }
        for (int slot = 9; slot >= 0; slot--) {
            x.tick(1);
            Due.due("slot " + slot + " rings", x.at(slot, 10), -2);
            Due.due("it runs", x.running(), slot);
            x.receive(ANY, true);
            Due.due("the next one waits on", slot == 0 ? 0 : x.at(slot - 1, 10), 0);
        }
    }

    // Promise 19: "a note (that is taken likewise)": by one RECEIVING from ANY alone.
    private static void alarmTakenOrThere() {
        ReviveKernel x = Scene.row(6);
        x.alarm(1);
        x.receive(ANY, true);
        x.alarm(1);
        x.receive(5, true);
        x.alarm(1);
        x.send(5, 1);
        x.alarm(1);
        x.call(5, 1);
        x.alarm(1);
        Due.due("4 runs", x.running(), 4);
        x.receive(5, true);
        x.alarm(1);
        Due.due("5 gets 3's call", x.receive(3, true), 0);
        x.tick(1);
        int[] states = {Scene.READY, Scene.RECEIVING, Scene.SENDING, Scene.AWAITING, Scene.RECEIVING, Scene.READY};
        int[] notes = {0, 1, 1, 1, 1, 1};
        for (int slot = 0; slot < 6; slot++) {
            Due.due("state of " + slot, x.at(slot, 1), states[slot]);
            Due.due("notes of " + slot, x.at(slot, 6), notes[slot]);
            Due.due("alarm of " + slot, x.at(slot, 14), 0);
        }
        Due.due("0 got it", x.at(0, 10), -2);
        Due.due("sort", x.at(0, 11), 1);
        Due.due("value", x.at(0, 12), 0);
        Due.due("result", x.at(0, 13), 0);
        Due.due("notes got", x.total(3), 1);
    }

    // Promise 19: "Alarms that are due, by slots"
    private static void alarmsBySlots() {
        ReviveKernel x = Scene.of(2, 2, 2, 2, 3);
        // They set their alarms and wait in the order 3, 2, 1, 0.
        Scene.letRun(x, 4);
        for (int slot = 3; slot >= 0; slot--) {
            x.note(slot);
            Due.due("runs", x.running(), slot);
            x.alarm(5);
            x.receive(ANY, true);
        }
        x.tick(5);
        for (int slot = 0; slot < 4; slot++) {
            Due.due("by slots " + slot, x.at(slot, 9), slot);
        }
    }

    private static void alarmsRingWhileNobodyRuns() {
        ReviveKernel x = Scene.row(1);
        x.alarm(3);
        x.receive(ANY, true);
        x.tick(2);
        Due.due("nobody runs", x.running(), NOTHING);
        x.tick(1);
        Due.due("it is woken", x.running(), 0);
        Due.due("the tick that woke it is not its own", x.at(0, 4), 4);
    }

    // Promise 26: "BAD if n is not 1 .. 100; then nothing changes."
    private static void tickNumbers() {
        ReviveKernel x = Scene.of(1, 1);
        x.alarm(1);
        x.serve(0, 1, 2);
        for (int n : new int[] {0, -1, -100, 101, 102, LEAST, MOST}) {
            Due.refused("tick " + n, x, () -> x.tick(n), BAD);
        }
        Due.due("then one tick", x.tick(1), 1);
        Due.due("time", x.total(0), 1);
        Due.due("the alarm rings", x.at(0, 6), 1);
        x.close(0);
        Due.due("a hundred ticks", x.tick(100), 0);
        Due.due("time", x.total(0), 101);
        ReviveKernel empty = new ReviveKernel();
        Due.refused("tick 0 of nobody", empty, () -> empty.tick(0), BAD);
        Due.refused("tick 101 of nobody", empty, () -> empty.tick(101), BAD);
        Due.due("tick of nobody", empty.tick(100), 0);
        Due.due("time", empty.total(0), 100);
    }

    // Promise 19: "n ticks": n at once are as one after the other.
    private static void ticksOneByOneOrAtOnce() {
        for (int n : new int[] {2, 3, 8, 33, 99, 100}) {
            ReviveKernel x = busy();
            ReviveKernel y = busy();
            int begun = x.tick(n);
            int sum = 0;
            for (int i = 0; i < n; i++) {
                sum += y.tick(1);
            }
            Due.due("how many began in " + n, begun, sum);
            Due.due("the same is seen after " + n, Scene.look(x).equals(Scene.look(y)), true);
        }
    }

    private static ReviveKernel busy() {
        ReviveKernel x = Scene.of(0, 1, 2, 0);
        x.watch(1);
        x.alarm(40);
        x.serve(0, 1, 2);
        x.serve(1, 0, 7);
        x.serve(2, 3, 20);
        return x;
    }

    // Promise 19: "RUNNING has one tick less, with 0 its PRIORITY grows by 1 .., it has 4, and comes into that row"
    private static void fourthTick() {
        for (int base = 0; base < 3; base++) {
            ReviveKernel x = Scene.of(base, base + 1, base);
            for (int left = 3; left >= 1; left--) {
                x.tick(1);
                Due.due("TICKS", x.at(0, 4), left);
                Due.due("PRIORITY", x.at(0, 3), base);
                Due.due("place", x.at(0, 9), 0);
            }
            x.tick(1);
            Due.due("TICKS anew", x.at(0, 4), 4);
            Due.due("PRIORITY", x.at(0, 3), base + 1);
            Due.due("the last one of that row", x.at(0, 9), 1);
            Due.due("1 was there before", x.at(1, 9), 0);
            Due.due("2 runs", x.running(), 2);
            Due.due("it has all its TICKS", x.at(2, 4), 4);
        }
    }

    // Promise 19: "(to 3 at most)"
    private static void fourthTickOfTheLastRow() {
        ReviveKernel x = Scene.of(3, 3, 3);
        x.tick(3);
        Due.due("still the first", x.running(), 0);
        x.tick(1);
        Due.due("PRIORITY", x.at(0, 3), 3);
        Due.due("TICKS anew", x.at(0, 4), 4);
        Due.due("the last one", x.at(0, 9), 2);
        Due.due("1 runs", x.running(), 1);
        ReviveKernel alone = Scene.of(3);
        alone.tick(100);
        Due.due("PRIORITY", alone.at(0, 3), 3);
        Due.due("TICKS", alone.at(0, 4), 4);
        ReviveKernel risen = Scene.of(2);
        risen.tick(7);
        Due.due("PRIORITY above its base", risen.at(0, 3), 3);
        risen.tick(1);
        Due.due("3 at most, then one less", risen.at(0, 3), 2);
    }

    // "RUNNING has one tick less": nobody else.
    private static void ticksOfRunningAlone() {
        ReviveKernel x = Scene.of(1, 1, 2, 3);
        x.tick(3);
        for (int slot = 1; slot < 4; slot++) {
            Due.due("TICKS of " + slot, x.at(slot, 4), 4);
        }
        x.receive(ANY, true);
        x.tick(2);
        Due.due("one that waits", x.at(0, 4), 1);
        Due.due("the next one", x.at(1, 4), 2);
        x.receive(ANY, true);
        x.receive(ANY, true);
        x.receive(ANY, true);
        x.tick(50);
        int[] left = {1, 2, 4, 4};
        for (int slot = 0; slot < 4; slot++) {
            Due.due("nobody runs, TICKS of " + slot, x.at(slot, 4), left[slot]);
        }
    }

    private static void ticksAreKept() {
        ReviveKernel x = Scene.of(1, 3);
        x.tick(3);
        x.receive(ANY, true);
        x.note(0);
        Due.due("waiting leaves the TICKS", x.at(0, 4), 1);
        x.tick(1);
        Due.due("the fourth one", x.at(0, 3), 2);
        Due.due("TICKS anew", x.at(0, 4), 4);
    }

    // Promise 19: "At each eighth one the PRIORITIES above their BASES are one less"
    private static void eighthTick() {
        ReviveKernel x = Scene.of(0);
        x.tick(4);
        Due.due("PRIORITY", x.at(0, 3), 1);
        x.receive(ANY, true);
        x.tick(3);
        Due.due("at 7", x.at(0, 3), 1);
        x.tick(1);
        Due.due("at 8", x.at(0, 3), 0);
        Due.due("TICKS as they were", x.at(0, 4), 4);
    }

    private static void notBelowItsBase() {
        for (int base = 0; base <= 3; base++) {
            ReviveKernel x = Scene.of(base);
            x.receive(ANY, true);
            x.tick(100);
            Due.due("the base", x.at(0, 3), base);
            ReviveKernel y = Scene.of(3, base);
            y.receive(ANY, true);
            y.tick(8);
            Due.due("a READY one in its base", y.at(0, 3), 3);
        }
    }

    private static void eachEighthTick() {
        ReviveKernel x = Scene.of(0);
        // A process that runs alone rises twice in eight ticks and falls once.
        int[] due = {0, 0, 0, 0, 1, 1, 1, 1, 1, 1, 1, 1, 2, 2, 2, 2, 2, 2, 2, 2, 3, 3, 3, 3, 2, 2, 2, 2, 3, 3, 3, 3, 2};
        for (int time = 0; time < due.length; time++) {
            Due.due("PRIORITY at " + time, x.at(0, 3), due[time]);
            if (time + 1 < due.length) {
                x.tick(1);
            }
        }
        x.receive(ANY, true);
        x.tick(7);
        Due.due("at 39", x.at(0, 3), 2);
        x.tick(1);
        Due.due("at 40", x.at(0, 3), 1);
        x.tick(7);
        Due.due("at 47", x.at(0, 3), 1);
        x.tick(1);
        Due.due("at 48", x.at(0, 3), 0);
        x.tick(8);
        Due.due("at 56", x.at(0, 3), 0);
    }

    // Promise 19: "by slots": those that are relieved into the same row stand there by slots.
    private static void relievedBySlots() {
        ReviveKernel x = new ReviveKernel();
        x.birth(3, 1023);
        x.birth(0, 1023);
        x.tick(4);
        Due.due("1 rose first", x.at(1, 3), 1);
        x.receive(ANY, true);
        x.end(0);
        x.birth(0, 1023);
        x.tick(3);
        Due.due("time", x.total(0), 7);
        x.note(1);
        Due.due("1 is READY in row 1", x.at(1, 9), 0);
        x.tick(1);
        Due.due("0 rose at 8 and fell", x.at(0, 3), 0);
        Due.due("1 fell", x.at(1, 3), 0);
        Due.due("0 came first", x.at(0, 9), 0);
        Due.due("1 came then, though it was before 0 in row 1", x.at(1, 9), 1);

        ReviveKernel y = Scene.of(1, 1);
        Scene.letRun(y, 1);
        y.tick(4);
        Due.due("1 rose first", y.at(1, 3), 2);
        y.note(0);
        Due.due("0 runs", y.running(), 0);
        y.tick(3);
        y.birth(2, 1023);
        Due.due("row 2 is 1, 2", y.at(2, 9), 1);
        y.tick(1);
        Due.due("0 came into row 2 at 8, then, first, into row 1", y.at(0, 9), 0);
        Due.due("1 after it", y.at(1, 9), 1);
        Due.due("both in row 1", y.at(0, 3) + y.at(1, 3), 2);
        Due.due("2 is alone in row 2", y.at(2, 9), 0);
    }

    // "READY ones come into that row": behind those that are there.
    private static void relievedOnesComeLast() {
        ReviveKernel x = Scene.of(0);
        x.tick(4);
        x.tick(2);
        x.birth(0, 1023);
        x.birth(0, 1023);
        Due.due("1 runs", x.running(), 1);
        x.tick(2);
        Due.due("0 came into row 0", x.at(0, 3), 0);
        Due.due("behind 1 and 2", x.at(0, 9), 2);
        Due.due("1 runs on", x.running(), 1);
    }

    // Those in the row of their base stay where they are.
    private static void baseOnesKeepTheirPlaces() {
        ReviveKernel x = Scene.of(2, 2, 2);
        x.tick(7);
        x.receive(ANY, true);
        x.note(1);
        int[] places = {x.at(0, 9), x.at(1, 9), x.at(2, 9)};
        Due.due("2 runs", x.running(), 2);
        Due.due("1 is behind it", places[1], 1);
        x.tick(1);
        Due.due("2 is the first still", x.at(2, 9), 0);
        Due.due("1 is the second still", x.at(1, 9), 1);
        Due.due("0 came behind them", x.at(0, 9), 2);
    }

    // "the PRIORITIES above their BASES": of those that wait, too, in each way of waiting.
    private static void waitingOnesToo() {
        for (int way = 0; way < 4; way++) {
            ReviveKernel x = Scene.of(1, 3, 3);
            x.tick(4);
            Due.due("PRIORITY", x.at(0, 3), 2);
            Due.due("0 runs", x.running(), 0);
            int state;
            switch (way) {
                case 0: state = Scene.RECEIVING; x.receive(ANY, true); break;
                case 1: state = Scene.RECEIVING; x.receive(1, true); break;
                case 2: state = Scene.SENDING; x.send(1, 1); break;
                default: state = Scene.AWAITING; x.call(1, 1); x.receive(0, true); break;
            }
            Due.due("state", x.at(0, 1), state);
            x.tick(3);
            Due.due("at 7", x.at(0, 3), 2);
            x.tick(1);
            Due.due("at 8", x.at(0, 3), 1);
            Due.due("it waits on", x.at(0, 1), state);
            Due.due("in no row", x.at(0, 9), -1);
            x.tick(8);
            Due.due("at 16", x.at(0, 3), 1);
        }
    }

    // "the PRIORITIES .. are one less": the TICKS are as they were.
    private static void reliefLeavesTicks() {
        ReviveKernel x = Scene.of(0, 1);
        x.tick(4);
        x.receive(ANY, true);
        Due.due("0 runs in row 1", x.running(), 0);
        x.tick(2);
        x.birth(0, 1023);
        x.tick(1);
        Due.due("TICKS", x.at(0, 4), 2);
        x.tick(1);
        Due.due("it fell, READY", x.at(0, 3), 0);
        Due.due("TICKS as before", x.at(0, 4), 2);
        ReviveKernel y = Scene.of(0);
        y.tick(5);
        y.receive(ANY, true);
        y.tick(3);
        Due.due("it fell, waiting", y.at(0, 3), 0);
        Due.due("TICKS as before", y.at(0, 4), 3);
    }

    // A new PRIORITY is no coming into a queue.
    private static void reliefLeavesQueues() {
        ReviveKernel x = Scene.of(0, 2, 3);
        x.tick(4);
        Due.due("0 sends first", x.send(2, 10), BLOCKED);
        Due.due("1 sends then", x.send(2, 11), BLOCKED);
        x.tick(4);
        Due.due("0 fell", x.at(0, 3), 0);
        Due.due("a message", x.receive(ANY, true), 0);
        Due.due("of the one that came first", x.at(2, 12), 10);
        Due.due("READY, it is in its new row", x.running(), 0);
    }

    private static void fourthAndEighthAtOnce() {
        ReviveKernel x = Scene.of(0, 0, 1);
        x.receive(ANY, true);
        x.tick(4);
        Due.due("1 rose", x.at(1, 3), 1);
        Due.due("2 is before it", x.running(), 2);
        x.tick(4);
        Due.due("2 rose and fell", x.at(2, 3), 1);
        Due.due("TICKS anew", x.at(2, 4), 4);
        Due.due("1 fell", x.at(1, 3), 0);
        Due.due("1 runs", x.running(), 1);
    }

    // The eighth tick's relief is before its alarms: who is woken comes into its new row, behind the relieved ones.
    private static void reliefThenAlarms() {
        ReviveKernel x = Scene.of(0, 0);
        x.tick(4);
        Due.due("0 rose", x.at(0, 3), 1);
        x.receive(0, true);
        Due.due("0 runs", x.running(), 0);
        x.alarm(4);
        Due.due("0 waits", x.receive(ANY, true), BLOCKED);
        x.tick(3);
        x.birth(0, 1023);
        x.tick(1);
        Due.due("0 fell", x.at(0, 3), 0);
        Due.due("0 is READY in row 0, behind 2", x.at(0, 9), 1);
        ReviveKernel y = Scene.of(1, 1);
        Scene.letRun(y, 1);
        y.tick(4);
        Due.due("1 rose", y.at(1, 3), 2);
        y.note(0);
        y.alarm(4);
        y.receive(ANY, true);
        y.birth(0, 1023);
        y.tick(4);
        Due.due("1 was relieved before 0 was woken", y.at(1, 9), 0);
        Due.due("0 is behind it, though its slot is less", y.at(0, 9), 1);
    }
}
