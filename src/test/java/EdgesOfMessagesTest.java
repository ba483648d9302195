import java.util.function.IntUnaryOperator;

/** The edges that the document names in promises 5 to 9: send, call, receive, note, post, a method for each. */
public final class EdgesOfMessagesTest {
    private static final int BAD = ReviveKernel.BAD, BLOCKED = ReviveKernel.BLOCKED, STALE = ReviveKernel.STALE;
    private static final int DENIED = ReviveKernel.DENIED, DEADLOCK = ReviveKernel.DEADLOCK;
    private static final int NOTHING = ReviveKernel.NOTHING, FULL = ReviveKernel.FULL;
    private static final int ANY = Scene.ANY, LEAST = Scene.LEAST, MOST = Scene.MOST;
    private static final String[] WAYS = {"send", "call", "note", "post"};

    public static void main(String[] args) {
        nobodyRuns();
        staleThenOwnThenDenied();
        anyIsForReceiveAlone();
        receiveHeedsNoMask();
        whoTakes();
        awaitingTakesAMessageAlone();
        valuesAtTheEnds();
        sendToTheEndOfTheQueue();
        sendDeadlocks();
        takingGoesBeforeDeadlock();
        longestChain();
        anyIsBehindNobody();
        callAtOnce();
        callLater();
        callDeadlocks();
        notesBySources();
        oneNoteOfASource();
        lettersInOrder();
        queueInOrder();
        notesThenLettersThenMessages();
        fromOneProcessAlone();
        senderIsReadyLast();
        nothingIfItDoesNotWait();
        receiveDeadlocks();
        receiveFromAnyWaitsAlways();
        notesToAll();
        threeLetters();
        lettersThatAreTakenDoNotCount();
        fullGoesBehindTheRefusals();
        fullGoesBeforeTaking();
        allLettersThatThereCanBe();
        Due.close("EdgesOfMessagesTest");
    }

    private static int go(ReviveKernel x, int way, int to, int value) {
        switch (way) {
            case 0: return x.send(to, value);
            case 1: return x.call(to, value);
            case 2: return x.note(to);
            default: return x.post(to, value);
        }
    }

    // "BAD if there is none": whatever the numbers are.
    private static void nobodyRuns() {
        ReviveKernel empty = new ReviveKernel();
        ReviveKernel waiting = Scene.row(2);
        waiting.receive(ANY, true);
        waiting.receive(ANY, true);
        for (ReviveKernel x : new ReviveKernel[] {empty, waiting}) {
            for (int other : new int[] {0, 1, 2, 16, ANY, -2, LEAST, MOST}) {
                for (int way = 0; way < 4; way++) {
                    int w = way;
                    Due.refused(WAYS[way] + " of nobody to " + other, x, () -> go(x, w, other, 1), BAD);
                }
                Due.refused("receive of nobody from " + other, x, () -> x.receive(other, true), BAD);
                Due.refused("receive of nobody from " + other, x, () -> x.receive(other, false), BAD);
            }
        }
    }

    // "then STALE .., BAD if it is its own, DENIED if .. a slot outside its MASK (in this order)"
    private static void staleThenOwnThenDenied() {
        for (int mask : new int[] {0, 1 << 1, 1023}) {
            ReviveKernel x = new ReviveKernel();
            x.birth(2, 1023);
            x.birth(1, mask);
            x.birth(2, 1023);
            x.end(2);
            for (int way = 0; way < 4; way++) {
                int w = way;
                Due.refused(WAYS[way] + " to an ended one", x, () -> go(x, w, 2, 1), STALE);
                Due.refused(WAYS[way] + " to a free slot", x, () -> go(x, w, 9, 1), STALE);
                Due.refused(WAYS[way] + " to no slot", x, () -> go(x, w, 10, 1), STALE);
                Due.refused(WAYS[way] + " to itself", x, () -> go(x, w, 1, 1), BAD);
                if (mask != 1023) {
                    Due.refused(WAYS[way] + " outside the mask", x, () -> go(x, w, 0, 1), DENIED);
                }
            }
            Due.refused("receive from itself", x, () -> x.receive(1, true), BAD);
            Due.refused("receive from itself", x, () -> x.receive(1, false), BAD);
            Due.refused("receive from an ended one", x, () -> x.receive(2, false), STALE);
        }
    }

    // "of ANY none of these": but send, call, note and post go to a process, not to ANY.
    private static void anyIsForReceiveAlone() {
        ReviveKernel x = Scene.row(2);
        for (int way = 0; way < 4; way++) {
            int w = way;
            Due.refused(WAYS[way] + " to ANY", x, () -> go(x, w, ANY, 1), STALE);
        }
        for (int source : new int[] {-2, -3, -4, -5}) {
            Due.refused("receive from the clock or a service", x, () -> x.receive(source, true), STALE);
        }
        Due.due("receive from ANY", x.receive(ANY, true), BLOCKED);
    }

    // DENIED is said of send(), call(), note() and post() alone.
    private static void receiveHeedsNoMask() {
        ReviveKernel x = new ReviveKernel();
        x.birth(1, 0);
        x.birth(1, 1);
        Due.due("receive from one outside the mask", x.receive(1, true), BLOCKED);
        Due.due("its message is taken", x.send(0, 4), 0);
        Due.due("value", x.at(0, 12), 4);
    }

    /** Slot 0 in a state, slot 1 that runs and may be waited for, slots 2 and 3 others. */
    private static ReviveKernel withReceiver(int kind) {
        ReviveKernel x = Scene.of(1, 3, 2, 3);
        switch (kind) {
            case 0: x.receive(ANY, true); break;
            case 1: x.receive(1, true); break;
            case 2: x.receive(2, true); break;
            case 3: x.call(2, 1); x.receive(0, true); break;
            case 4: x.send(3, 1); break;
            default: x.end(0); x.birth(3, 1023); break;
        }
        x.receive(ANY, true);
        Due.due("1 runs", x.running(), 1);
        return x;
    }

    // "It TAKES from a source: if it is RECEIVING from ANY or that source, whatever it is"
    private static void whoTakes() {
        String[] kinds = {"RECEIVING from ANY", "RECEIVING from it", "RECEIVING from another", "AWAITING another",
            "SENDING to another", "READY"};
        for (int kind = 0; kind < kinds.length; kind++) {
            for (int way = 0; way < 4; way++) {
                ReviveKernel x = withReceiver(kind);
                int to = x.at(0, 0);
                int state = x.at(0, 1);
                boolean takes = kind < 2;
                boolean waits = way == 1 || way == 0 && !takes;
                String what = WAYS[way] + " to one " + kinds[kind];
                Due.due(what, go(x, way, to, 40 + way), waits ? BLOCKED : 0);
                Due.due(what + ", its state", x.at(0, 1), takes ? Scene.READY : state);
                int sort = way < 2 ? 0 : way - 1;
                Due.due(what + ", source got", x.at(0, 10), takes ? 1 : 0);
                Due.due(what + ", sort got", x.at(0, 11), takes ? sort : 0);
                Due.due(what + ", value got", x.at(0, 12), takes && way != 2 ? 40 + way : 0);
                Due.due(what + ", queue", x.at(0, 5), !takes && way < 2 ? 1 : 0);
                Due.due(what + ", notes", x.at(0, 6), !takes && way == 2 ? 1 : 0);
                Due.due(what + ", letters", x.at(0, 7), !takes && way == 3 ? 1 : 0);
                int own = !waits ? Scene.READY : takes ? Scene.AWAITING : Scene.SENDING;
                Due.due(what + ", state of RUNNING", x.at(1, 1), own);
                if (takes) {
                    Due.due(what + ", result", x.at(0, 13), 0);
                    Due.due(what + ", whom", x.at(0, 2), 0);
                }
            }
        }
    }

    // "if it is AWAITING it, a message": no note and no letter, and a message of nobody else.
    private static void awaitingTakesAMessageAlone() {
        ReviveKernel x = Scene.row(3);
        x.receive(ANY, true);
        Due.due("1 calls 0", x.call(0, 1), BLOCKED);
        Due.due("2 sends to 1", x.send(1, 2), BLOCKED);
        Due.due("0 runs", x.running(), 0);
        Due.due("note", x.note(1), 0);
        Due.due("post", x.post(1, 3), 0);
        Due.due("awaits on", x.at(1, 1), Scene.AWAITING);
        Due.due("has the note", x.at(1, 6), 1);
        Due.due("has the letter", x.at(1, 7), 1);
        Due.due("has 2 in its queue", x.at(1, 5), 1);
        Due.due("got nothing", x.at(1, 10) + x.at(1, 11) + x.at(1, 12), 0);
        Due.due("the answer", x.send(1, 4), 0);
        Due.due("READY", x.at(1, 1), Scene.READY);
        Due.due("value", x.at(1, 12), 4);
        Due.due("sort", x.at(1, 11), 0);
        Due.due("the note is there still", x.at(1, 6), 1);
    }

    // Values are ints, up to both ends.
    private static void valuesAtTheEnds() {
        for (int value : new int[] {LEAST, MOST, -1, 0, 1, BLOCKED, NOTHING}) {
            ReviveKernel x = Scene.row(2);
            x.receive(ANY, true);
            Due.due("send", x.send(0, value), 0);
            Due.due("taken", x.at(0, 12), value);
            Due.due("post", x.post(0, value), 0);
            Due.due("call", x.call(0, value), BLOCKED);
            x.poke(0, 0, 1);
            Due.due("letter", x.receive(1, false), 2);
            Due.due("its value", x.at(0, 12), value);
            Due.due("message", x.receive(1, false), 0);
            Due.due("its value", x.at(0, 12), value);
            x.send(1, value);
            Due.due("the answer's value", x.at(1, 12), value);
        }
    }

    // Promise 5: "else RUNNING is SENDING, the last one of its queue: BLOCKED"
    private static void sendToTheEndOfTheQueue() {
        ReviveKernel x = Scene.row(10);
        for (int slot = 0; slot < 9; slot++) {
            Due.due("queue", x.at(9, 5), slot);
            Due.due("send of " + slot, x.send(9, slot), BLOCKED);
            Due.due("SENDING", x.at(slot, 1), Scene.SENDING);
            Due.due("to 9", x.at(slot, 2), 9);
            Due.due("result", x.at(slot, 13), 0);
        }
        Due.due("all others are in its queue", x.at(9, 5), 9);
        Due.due("nothing was got", x.total(2), 0);
    }

    // Promise 5: "DEADLOCK if that one is stuck behind RUNNING": SENDING to it, or AWAITING it.
    private static void sendDeadlocks() {
        ReviveKernel x = Scene.row(2);
        x.send(1, 1);
        Due.refused("to one that is SENDING to it", x, () -> x.send(0, 2), DEADLOCK);
        ReviveKernel y = Scene.row(3);
        y.call(1, 1);
        Due.due("1 gets it", y.receive(0, true), 0);
        y.receive(2, true);
        Due.refused("2 has nothing of 0", y, () -> y.receive(0, false), NOTHING);
        Due.due("it is taken", y.send(1, 3), 0);
        Due.due("2 sends to one that awaits another", y.send(0, 4), BLOCKED);
        Due.refused("1 to 2, that sends to 0, that awaits 1", y, () -> y.send(2, 5), DEADLOCK);
        Due.due("1 to 0 is taken", y.send(0, 6), 0);
        Due.due("then 2 is stuck behind a READY one", y.send(2, 7), BLOCKED);
    }

    // Promise 5: whether it TAKES is looked at first; the one that takes is stuck behind RUNNING, too.
    private static void takingGoesBeforeDeadlock() {
        ReviveKernel x = Scene.row(2);
        x.receive(1, true);
        Due.due("to one that is RECEIVING from it", x.send(0, 1), 0);
        Due.due("1 calls 0", x.call(0, 2), BLOCKED);
        Due.due("0 gets it", x.receive(1, true), 0);
        Due.due("to one that is AWAITING it", x.send(1, 3), 0);
        Due.due("0 calls 1", x.call(1, 4), BLOCKED);
        Due.due("1 gets it", x.receive(0, true), 0);
        Due.due("call to one that is AWAITING it", x.call(0, 5), BLOCKED);
        Due.due("0 got it", x.at(0, 12), 5);
        Due.due("0 is READY", x.at(0, 1), Scene.READY);
        Due.due("1 is AWAITING", x.at(1, 1), Scene.AWAITING);
    }

    // "and behind all behind whom that one is stuck": as far as there are slots.
    private static void longestChain() {
        ReviveKernel x = Scene.row(10);
        x.receive(9, true);
        for (int slot = 1; slot < 9; slot++) {
            Due.due("slot " + slot + " sends on", x.send(slot - 1, slot), BLOCKED);
        }
        for (int slot = 1; slot < 9; slot++) {
            int to = slot;
            Due.refused("send to " + slot, x, () -> x.send(to, 1), DEADLOCK);
            Due.refused("call to " + slot, x, () -> x.call(to, 1), DEADLOCK);
            Due.refused("receive from " + slot, x, () -> x.receive(to, true), DEADLOCK);
        }
        Due.refused("receive from 0", x, () -> x.receive(0, true), DEADLOCK);
        Due.due("0 takes", x.send(0, 1), 0);
        Due.due("nobody is stuck behind 9 now", x.send(8, 1), BLOCKED);
    }

    // "RECEIVING .. from ANY": such a one is stuck behind nobody.
    private static void anyIsBehindNobody() {
        ReviveKernel x = Scene.row(4);
        x.receive(ANY, true);
        x.receive(0, true);
        x.send(1, 1);
        Due.due("receive from the end of that chain", x.receive(2, true), BLOCKED);
        ReviveKernel y = Scene.row(3);
        y.receive(ANY, true);
        y.receive(0, true);
        Due.due("send", y.send(1, 1), BLOCKED);
    }

    // Promise 6: "when the message is got (at once ..) RUNNING is AWAITING the other one: BLOCKED also then"
    private static void callAtOnce() {
        ReviveKernel x = Scene.row(3);
        x.receive(1, true);
        Due.due("call to one that receives from it", x.call(0, 5), BLOCKED);
        Due.due("AWAITING", x.at(1, 1), Scene.AWAITING);
        Due.due("whom", x.at(1, 2), 0);
        Due.due("in no row", x.at(1, 9), -1);
        Due.due("in no queue", x.at(0, 5), 0);
        Due.due("0 got it", x.at(0, 12), 5);
        Due.due("messages got", x.total(2), 1);
        Due.due("the other one's place", x.at(0, 9), 1);
    }

    // Promise 6: "(.. or later)"
    private static void callLater() {
        ReviveKernel x = Scene.row(2);
        Due.due("call to a READY one", x.call(1, 5), BLOCKED);
        Due.due("SENDING", x.at(0, 1), Scene.SENDING);
        Due.due("in its queue", x.at(1, 5), 1);
        Due.due("got", x.receive(ANY, false), 0);
        Due.due("AWAITING", x.at(0, 1), Scene.AWAITING);
        Due.due("whom", x.at(0, 2), 1);
        Due.due("result", x.at(0, 13), 0);
        Due.due("in no queue", x.at(1, 5), 0);
        Due.due("in no row", x.at(0, 9), -1);
        x.receive(ANY, true);
        Due.due("who awaits does not run", x.running(), NOTHING);
    }

    // Promise 6: "The same": DEADLOCK if that one is stuck behind RUNNING.
    private static void callDeadlocks() {
        ReviveKernel x = Scene.row(2);
        x.call(1, 1);
        Due.refused("to one whose call waits", x, () -> x.call(0, 2), DEADLOCK);
        Due.due("it gets that call", x.receive(0, true), 0);
        Due.due("then it is taken", x.call(0, 2), BLOCKED);
        Due.due("0 runs", x.running(), 0);
        Due.refused("0 receives from one that awaits it", x, () -> x.receive(1, true), DEADLOCK);
    }

    // Promise 7: "the note of the least source (slots 0 .. 9, the clock, services 0 .. 2)", all thirteen.
    private static void notesBySources() {
        ReviveKernel x = Scene.of(3);
        for (int k = 2; k >= 0; k--) {
            x.serve(k, 1, 50);
            x.watch(k);
        }
        x.alarm(1);
        x.tick(1);
        Due.due("three services and the clock", x.at(0, 6), 4);
        for (int slot = 4; slot < 10; slot++) {
            x.birth(1, 1023);
        }
        x.end(7);
        Due.due("the second one in slot 7 comes last", x.birth(1, 1023), 23);
        for (int slot : new int[] {1, 2, 3, 4, 5, 6, 8, 9, 23}) {
            Due.due("running", x.running(), slot);
            Due.due("note", x.note(0), 0);
            x.receive(ANY, true);
        }
        Due.due("notes of all sources", x.at(0, 6), 13);
        int left = 13;
        for (int source : new int[] {1, 2, 3, 4, 5, 6, 23, 8, 9, -2, -3, -4, -5}) {
            Due.due("a note", x.receive(ANY, true), 1);
            Due.due("of", x.at(0, 10), source);
            Due.due("sort", x.at(0, 11), 1);
            Due.due("value", x.at(0, 12), 0);
            left--;
            Due.due("notes left", x.at(0, 6), left);
        }
        Due.due("no more", x.receive(ANY, false), NOTHING);
    }

    // Promise 8: "else it is there (as before, if there was one): 0"
    private static void oneNoteOfASource() {
        ReviveKernel x = Scene.of(0, 2, 3);
        for (int i = 0; i < 5; i++) {
            Due.due("note " + i, x.note(1), 0);
            Due.due("notes", x.at(1, 6), 1);
        }
        Due.due("another one has its own", x.note(2), 0);
        x.receive(ANY, true);
        Due.due("got", x.receive(0, true), 1);
        Due.due("no second one", x.receive(0, false), NOTHING);
        Due.due("notes got", x.total(3), 1);
        Due.due("note to 0, that takes it", x.note(0), 0);
        Due.due("a new note after the old one was got", x.note(1), 0);
        Due.due("notes", x.at(1, 6), 1);
    }

    // Promise 7: "the first letter", in the order in which they were posted, whoever posted them.
    private static void lettersInOrder() {
        ReviveKernel x = Scene.of(3, 1, 1, 1);
        int[] senders = {3, 1, 2, 1, 3, 2, 2, 3, 1};
        for (int i = 0; i < senders.length; i++) {
            wake(x, senders[i]);
            Due.due("sender runs", x.running(), senders[i]);
            Due.due("post " + i, x.post(0, 70 + i), 0);
            x.receive(ANY, true);
        }
        Due.due("letters", x.at(0, 7), 9);
        for (int i = 0; i < senders.length; i++) {
            Due.due("a letter", x.receive(ANY, true), 2);
            Due.due("in order", x.at(0, 12), 70 + i);
            Due.due("of", x.at(0, 10), senders[i]);
        }
        Due.due("no more", x.receive(ANY, false), NOTHING);
    }

    /** All of row 1 wait; 0 wakes one of them by a note. */
    private static void wake(ReviveKernel x, int slot) {
        for (int i = 0; i < 10 && x.running() != 0; i++) {
            x.receive(ANY, true);
        }
        x.note(slot);
    }

    // Promise 7: "the message of the first one in its queue", in the order in which they came.
    private static void queueInOrder() {
        int[][] orders = {{1, 2, 3, 4}, {4, 3, 2, 1}, {2, 4, 1, 3}, {3, 1, 4, 2}};
        for (int[] order : orders) {
            ReviveKernel x = Scene.of(3, 1, 1, 1, 1);
            for (int slot : order) {
                wake(x, slot);
                x.send(0, 10 * slot);
            }
            Due.due("queue", x.at(0, 5), 4);
            for (int slot : order) {
                wake(x, slot);
                Due.due("0 runs", x.running(), 0);
                Due.due("a message", x.receive(ANY, true), 0);
                Due.due("of the first", x.at(0, 12), 10 * slot);
            }
            Due.due("no queue", x.at(0, 5), 0);
        }
        ReviveKernel y = Scene.of(1, 1, 1, 1, 1, 1, 1, 1, 1, 3);
        int[] order = {5, 0, 8, 2, 7, 1, 6, 3, 4};
        Scene.letRun(y, 9);
        for (int slot : order) {
            y.note(slot);
            y.call(9, slot);
        }
        for (int slot : order) {
            Due.due("a call", y.receive(ANY, true), 0);
            Due.due("of the first", y.at(9, 12), slot);
            Due.due("it awaits", y.at(slot, 1), Scene.AWAITING);
        }
        // The order of coming is that of sending, not that of being READY.
        ReviveKernel z = Scene.of(3, 2, 1, 0);
        for (int slot = 3; slot >= 1; slot--) {
            Due.due("send of " + slot, z.send(0, slot), BLOCKED);
        }
        for (int slot = 3; slot >= 1; slot--) {
            Due.due("a message", z.receive(ANY, true), 0);
            Due.due("of the first", z.at(0, 12), slot);
            Due.due("the sender's row is less", z.running(), slot);
            z.receive(ANY, true);
        }
    }

    // Promise 7: "the first that there is of": notes, then letters, then the queue.
    private static void notesThenLettersThenMessages() {
        ReviveKernel x = Scene.of(3, 1, 1);
        Due.due("1 posts", x.post(0, 11), 0);
        Due.due("1 sends", x.send(0, 12), BLOCKED);
        Due.due("2 posts", x.post(0, 21), 0);
        Due.due("2 notes", x.note(0), 0);
        Due.due("2 calls", x.call(0, 22), BLOCKED);
        int[] sorts = {1, 2, 2, 0};
        int[] values = {0, 11, 21, 12};
        for (int i = 0; i < sorts.length; i++) {
            Due.due("sort", x.receive(ANY, true), sorts[i]);
            Due.due("value", x.at(0, 12), values[i]);
        }
        Due.due("1 runs", x.running(), 1);
        x.receive(ANY, true);
        Due.due("the last one", x.receive(ANY, true), 0);
        Due.due("value", x.at(0, 12), 22);
        Due.due("then it waits", x.receive(ANY, true), BLOCKED);
    }

    // Promise 7: "from a process": what others left stays.
    private static void fromOneProcessAlone() {
        ReviveKernel x = Scene.of(3, 1, 2, 2);
        x.note(0);
        x.post(0, 1);
        x.send(0, 2);
        x.post(0, 3);
        x.send(0, 4);
        x.alarm(1);
        x.receive(1, true);
        x.alarm(1);
        x.tick(1);
        Due.due("0 runs", x.running(), 0);
        Due.due("nothing of 3, though there is enough", x.receive(3, false), NOTHING);
        Due.due("the letter of 2", x.receive(2, true), 2);
        Due.due("the message of 2", x.receive(2, true), 0);
        Due.due("2 runs", x.running(), 2);
        x.receive(ANY, true);
        Due.due("no more of 2", x.receive(2, false), NOTHING);
        Due.due("the note of 1", x.receive(1, true), 1);
        Due.due("the letter of 1", x.receive(1, true), 2);
        Due.due("the message of 1", x.receive(1, true), 0);
        Due.due("value", x.at(0, 12), 2);
        x.receive(ANY, true);
        Due.due("the clock's note is there still", x.at(0, 6), 1);
        Due.due("and is got from ANY", x.receive(ANY, false), 1);
        Due.due("source", x.at(0, 10), -2);
    }

    // Promise 7: "The sender of a message is READY then": the last one of its row.
    private static void senderIsReadyLast() {
        ReviveKernel x = Scene.row(4);
        x.send(2, 1);
        x.call(2, 1);
        Due.due("message", x.receive(0, true), 0);
        Due.due("0 is READY", x.at(0, 1), Scene.READY);
        Due.due("the last one", x.at(0, 9), 2);
        Due.due("whom", x.at(0, 2), 0);
        Due.due("RUNNING stays", x.running(), 2);
        Due.due("message", x.receive(1, true), 0);
        Due.due("1 is AWAITING", x.at(1, 1), Scene.AWAITING);
        Due.due("RUNNING stays", x.running(), 2);
    }

    // Promise 7: "NOTHING if it does not wait"
    private static void nothingIfItDoesNotWait() {
        ReviveKernel x = Scene.row(3);
        Due.refused("from ANY", x, () -> x.receive(ANY, false), NOTHING);
        Due.refused("from a READY one", x, () -> x.receive(1, false), NOTHING);
        x.receive(1, true);
        Due.refused("from one that is stuck behind it", x, () -> x.receive(0, false), NOTHING);
        Due.refused("NOTHING is not said when it waits", x, () -> x.receive(0, true), DEADLOCK);
    }

    // Promise 7: "DEADLOCK if from is stuck behind RUNNING"
    private static void receiveDeadlocks() {
        ReviveKernel x = Scene.row(3);
        x.receive(1, true);
        Due.refused("RECEIVING from it", x, () -> x.receive(0, true), DEADLOCK);
        x.send(0, 1);
        x.call(2, 1);
        Due.due("what is there goes first", x.receive(1, true), 0);
        Due.refused("AWAITING it", x, () -> x.receive(1, true), DEADLOCK);
        Due.due("0 sends, is taken", x.send(1, 3), 0);
        ReviveKernel y = Scene.row(3);
        y.send(2, 1);
        y.send(0, 1);
        Due.refused("SENDING to one that is SENDING to it", y, () -> y.receive(1, true), DEADLOCK);
        Due.due("the message of a SENDING one is got", y.receive(0, true), 0);
        Due.due("no deadlock then", y.receive(1, true), BLOCKED);
    }

    // "of ANY none of these": though all others are stuck behind it.
    private static void receiveFromAnyWaitsAlways() {
        ReviveKernel x = Scene.row(3);
        x.receive(2, true);
        x.receive(2, true);
        Due.due("BLOCKED", x.receive(ANY, true), BLOCKED);
        Due.due("RECEIVING", x.at(2, 1), Scene.RECEIVING);
        Due.due("from ANY", x.at(2, 2), ANY);
        Due.due("nobody runs", x.running(), NOTHING);
    }

    // Promise 8: a note of each of the ten slots to each other one.
    private static void notesToAll() {
        ReviveKernel x = Scene.row(10);
        for (int slot = 0; slot < 10; slot++) {
            for (int to = 0; to < 10; to++) {
                Due.due("note of " + slot + " to " + to, x.note(to), to == slot ? BAD : 0);
            }
            if (slot < 9) {
                x.send(9, 1);
            }
        }
        for (int slot = 0; slot < 10; slot++) {
            Due.due("notes of " + slot, x.at(slot, 6), 9);
        }
        Due.due("no note was got", x.total(3), 0);
    }

    // Promise 9: "FULL if 3 letters of RUNNING were not got yet"
    private static void threeLetters() {
        ReviveKernel x = Scene.of(1, 1, 1, 1);
        for (int i = 1; i <= 3; i++) {
            Due.due("letter " + i, x.post(i, i), 0);
            Due.due("not got", x.at(0, 8), i);
        }
        Due.refused("a fourth, to one with one", x, () -> x.post(1, 4), FULL);
        x.receive(ANY, true);
        for (int i = 1; i <= 3; i++) {
            Due.due("another one's letters count for itself: " + i, x.post(2, i), 0);
        }
        Due.refused("its fourth", x, () -> x.post(0, 4), FULL);
        Due.due("1 gets the letter of 0", x.receive(0, true), 2);
        Due.due("not got", x.at(0, 8), 2);
        x.note(0);
        x.receive(3, true);
        x.receive(3, true);
        x.send(0, 1);
        Due.due("0 runs", x.running(), 0);
        Due.due("there is room for one", x.post(3, 5), 0);
        Due.refused("and for one only", x, () -> x.post(3, 6), FULL);
    }

    // A letter that is taken at once was got.
    private static void lettersThatAreTakenDoNotCount() {
        ReviveKernel x = Scene.of(1, 3);
        for (int i = 0; i < 5; i++) {
            Due.due("0 waits", x.receive(1, true), BLOCKED);
            Due.due("post", x.post(0, i), 0);
            Due.due("value", x.at(0, 12), i);
            Due.due("not got", x.at(1, 8), 0);
            Due.due("letters it has", x.at(0, 7), 0);
            Due.due("letters got", x.total(4), i + 1);
        }
    }

    // Promise 9: "(looked at behind BAD, STALE and DENIED ..)"
    private static void fullGoesBehindTheRefusals() {
        ReviveKernel x = new ReviveKernel();
        x.birth(1, 1 << 1);
        x.birth(1, 1023);
        x.birth(1, 1023);
        for (int i = 0; i < 3; i++) {
            x.post(1, i);
        }
        Due.refused("FULL", x, () -> x.post(1, 3), FULL);
        Due.refused("STALE", x, () -> x.post(3, 3), STALE);
        Due.refused("STALE", x, () -> x.post(ANY, 3), STALE);
        Due.refused("BAD, its own", x, () -> x.post(0, 3), BAD);
        Due.refused("DENIED", x, () -> x.post(2, 3), DENIED);
        Due.due("a note is not held back", x.note(1), 0);
        Due.due("nor a message", x.send(1, 1), BLOCKED);
    }

    // Promise 9: "(.. before whether it TAKES)"
    private static void fullGoesBeforeTaking() {
        for (int from : new int[] {ANY, 0}) {
            ReviveKernel x = Scene.of(3, 2, 1);
            Due.due("2 waits", x.receive(from, true), BLOCKED);
            Due.due("1 waits", x.receive(0, true), BLOCKED);
            x.note(1);
            x.receive(2, true);
            Due.due("0 runs", x.running(), 0);
            for (int i = 0; i < 3; i++) {
                Due.due("post to 1", x.post(1, i), 0);
            }
            Due.refused("FULL", x, () -> x.post(2, 9), FULL);
            Due.due("it waits on", x.at(2, 1), Scene.RECEIVING);
            Due.due("a note is taken", x.note(2), 0);
            Due.due("it is READY", x.at(2, 1), Scene.READY);
        }
    }

    // Ten processes have thirty letters on the way, and one process twenty-seven.
    private static void allLettersThatThereCanBe() {
        ReviveKernel x = Scene.row(10);
        IntUnaryOperator other = slot -> slot == 9 ? 0 : 9;
        for (int slot = 0; slot < 10; slot++) {
            Due.due("running", x.running(), slot);
            for (int i = 0; i < 3; i++) {
                Due.due("post", x.post(other.applyAsInt(slot), 10 * slot + i), 0);
            }
            Due.due("FULL", x.post(other.applyAsInt(slot), 5), FULL);
            if (slot < 9) {
                x.send(9, 1);
            }
        }
        Due.due("letters of 9", x.at(9, 7), 27);
        Due.due("letters of 0", x.at(0, 7), 3);
        for (int slot = 0; slot < 10; slot++) {
            Due.due("not got of " + slot, x.at(slot, 8), 3);
        }
        for (int slot = 0; slot < 9; slot++) {
            for (int i = 0; i < 3; i++) {
                Due.due("a letter", x.receive(ANY, false), 2);
                Due.due("value", x.at(9, 12), 10 * slot + i);
                Due.due("not got", x.at(slot, 8), 2 - i);
            }
        }
        Due.due("letters got", x.total(4), 27);
    }
}
