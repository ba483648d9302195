/** Promises 5 to 7: send, call, receive. */
public final class MessagesTest {
    private static final int BAD = ReviveKernel.BAD, BLOCKED = ReviveKernel.BLOCKED, STALE = ReviveKernel.STALE;
    private static final int DENIED = ReviveKernel.DENIED, DEADLOCK = ReviveKernel.DEADLOCK;
    private static final int NOTHING = ReviveKernel.NOTHING;
    private static final int ANY = -1;

    public static void main(String[] args) {
        refusals();
        sendToOneThatTakes();
        sendToOneThatDoesNotTake();
        calls();
        answersByACall();
        queueOrder();
        receiveFromOne();
        receiveOrder();
        receiveThatDoesNotWait();
        deadlocks();
        deadlockAlongAChain();
        wakingALesserRow();
        Due.close("MessagesTest");
    }

    private static ReviveKernel withProcesses(int n) {
        ReviveKernel x = new ReviveKernel();
        for (int i = 0; i < n; i++) {
            x.birth(1, 1023);
        }
        return x;
    }

    private static void refusals() {
        ReviveKernel none = new ReviveKernel();
        Due.due("send of nobody", none.send(0, 1), BAD);
        Due.due("call of nobody", none.call(0, 1), BAD);
        Due.due("receive of nobody", none.receive(ANY, false), BAD);
        Due.due("receive of nobody from one", none.receive(3, true), BAD);

        ReviveKernel x = new ReviveKernel();
        x.birth(0, 0b100);
        x.birth(0, 1023);
        x.birth(0, 1023);
        for (int to : new int[] {3, 10, 11, 15, 16, 17, -1, -2, -3, -16, Integer.MAX_VALUE, Integer.MIN_VALUE}) {
            Due.due("send to " + to, x.send(to, 1), STALE);
            Due.due("call to " + to, x.call(to, 1), STALE);
            if (to != ANY) {
                Due.due("receive from " + to, x.receive(to, true), STALE);
            }
        }
        Due.due("send to itself, before the mask", x.send(0, 1), BAD);
        Due.due("call to itself", x.call(0, 1), BAD);
        Due.due("receive from itself", x.receive(0, true), BAD);
        Due.due("send outside the mask", x.send(1, 1), DENIED);
        Due.due("call outside the mask", x.call(1, 1), DENIED);
        x.end(1);
        Due.due("STALE before DENIED", x.send(1, 1), STALE);
        Due.due("the mask is of slots", x.birth(0, 0), 17);
        Due.due("send outside the mask", x.send(17, 1), DENIED);
        Due.due("old endpoint", x.send(1, 1), STALE);
        Due.due("receive heeds no mask", x.receive(17, true), BLOCKED);
        Due.due("2 sends to one outside whose mask it is", x.send(0, 1), BLOCKED);
        Due.due("no message was got", x.total(2), 0);
    }

    private static void sendToOneThatTakes() {
        ReviveKernel x = withProcesses(3);
        x.receive(ANY, true);
        Due.due("receives from any", x.at(0, 2), ANY);
        x.receive(2, true);
        Due.due("receives from 2", x.at(1, 2), 2);
        Due.due("send", x.send(0, -77), 0);
        Due.due("got from", x.at(0, 10), 2);
        Due.due("got sort", x.at(0, 11), 0);
        Due.due("got value", x.at(0, 12), -77);
        Due.due("ready", x.at(0, 1), 1);
        Due.due("its own partner", x.at(0, 2), 0);
        Due.due("last of its row", x.at(0, 9), 1);
        Due.due("send to one that receives from it", x.send(1, 5), 0);
        Due.due("got value", x.at(1, 12), 5);
        Due.due("still running", x.running(), 2);
        Due.due("got", x.total(2), 2);
        Due.due("result", x.at(0, 13), 0);
    }

    private static void sendToOneThatDoesNotTake() {
        ReviveKernel x = withProcesses(4);
        x.receive(3, true);
        Due.due("send to one that receives from another", x.send(0, 4), BLOCKED);
        Due.due("sending", x.at(1, 1), 2);
        Due.due("to", x.at(1, 2), 0);
        Due.due("in no row", x.at(1, 9), -1);
        Due.due("queue", x.at(0, 5), 1);
        Due.due("nothing got", x.at(0, 12), 0);
        Due.due("send to a ready one", x.send(3, 9), BLOCKED);
        Due.due("queue", x.at(3, 5), 1);
        Due.due("running", x.running(), 3);
        Due.due("3 to 0", x.send(0, 6), 0);
        Due.due("0 got of 3", x.at(0, 10), 3);
        Due.due("1 waits on", x.at(0, 5), 1);
        Due.due("3 receives", x.receive(2, true), 0);
        Due.due("2 is ready", x.at(2, 1), 1);
        Due.due("result", x.at(2, 13), 0);
    }

    private static void calls() {
        ReviveKernel x = withProcesses(3);
        x.receive(ANY, true);
        Due.due("call to one that takes", x.call(0, 3), BLOCKED);
        Due.due("awaits", x.at(1, 1), 4);
        Due.due("whom", x.at(1, 2), 0);
        Due.due("message got", x.at(0, 12), 3);
        Due.due("0 is ready", x.at(0, 1), 1);
        Due.due("2 runs", x.running(), 2);
        Due.due("2 sends to the one that awaits another", x.send(1, 8), BLOCKED);
        Due.due("0 runs", x.running(), 0);
        Due.due("a note is not the answer", x.note(1), 0);
        Due.due("a letter is not the answer", x.post(1, 4), 0);
        Due.due("awaits still", x.at(1, 1), 4);
        Due.due("the answer", x.send(1, 7), 0);
        Due.due("got", x.at(1, 12), 7);
        Due.due("got of", x.at(1, 10), 0);
        Due.due("ready", x.at(1, 1), 1);
        Due.due("0 calls 1", x.call(1, 2), BLOCKED);
        Due.due("sending", x.at(0, 1), 2);
        x.receive(ANY, true);
        x.receive(ANY, true);
        Due.due("first in the queue", x.receive(ANY, true), 0);
        Due.due("2 sent only", x.at(2, 1), 1);
        Due.due("then", x.receive(ANY, true), 0);
        Due.due("0 called", x.at(0, 1), 4);
        Due.due("0 awaits 1", x.at(0, 2), 1);
        x.send(0, 1);
        x.receive(2, true);
        x.send(1, 1);
        x.receive(0, true);
        Due.due("a send after a call", x.send(2, 6), 0);
        Due.due("does not await", x.at(0, 1), 1);
    }

    private static void answersByACall() {
        ReviveKernel x = withProcesses(2);
        x.receive(ANY, true);
        x.call(0, 1);
        Due.due("an answer that is a call", x.call(1, 2), BLOCKED);
        Due.due("1 got it", x.at(1, 12), 2);
        Due.due("0 awaits", x.at(0, 1), 4);
        Due.due("running", x.running(), 1);
        Due.due("1 leaves", x.leave(), 1);
        Due.due("0 is ready", x.running(), 0);
        Due.due("its result", x.at(0, 13), STALE);
    }

    private static void queueOrder() {
        ReviveKernel x = new ReviveKernel();
        x.birth(3, 1023);
        x.birth(2, 1023);
        x.birth(1, 1023);
        x.birth(0, 1023);
        x.send(0, 33);
        x.send(0, 22);
        x.call(0, 11);
        Due.due("queue", x.at(0, 5), 3);
        for (int value = 33; value >= 11; value -= 11) {
            x.receive(ANY, false);
            Due.due("in the order of coming", x.at(0, 12), value);
            if (value > 11) {
                Due.due("the sender runs", x.running(), value / 11);
                x.receive(ANY, true);
            }
        }
        Due.due("the caller awaits", x.at(1, 1), 4);
        Due.due("queue", x.at(0, 5), 0);
    }

    private static void receiveFromOne() {
        ReviveKernel x = withProcesses(4);
        x.send(3, 10);
        x.post(3, 20);
        x.note(3);
        x.send(3, 11);
        x.post(3, 21);
        x.send(3, 12);
        Due.due("queue", x.at(3, 5), 3);
        Due.due("letter of 2", x.receive(2, true), 2);
        Due.due("its value", x.at(3, 12), 21);
        Due.due("message of 2", x.receive(2, true), 0);
        Due.due("its value", x.at(3, 12), 12);
        Due.due("none of 2", x.receive(2, false), NOTHING);
        Due.due("message of 0", x.receive(0, true), 0);
        Due.due("its value", x.at(3, 12), 10);
        Due.due("note of 1", x.receive(1, true), 1);
        Due.due("value of a note", x.at(3, 12), 0);
        Due.due("source of a note", x.at(3, 10), 1);
        Due.due("letter of 1", x.receive(1, true), 2);
        Due.due("message of 1", x.receive(1, true), 0);
        Due.due("the senders are ready in this order: 2", x.at(2, 9), 1);
        Due.due("0", x.at(0, 9), 2);
        Due.due("1", x.at(1, 9), 3);
        Due.due("still running", x.running(), 3);
        Due.due("totals", x.total(2) * 100 + x.total(3) * 10 + x.total(4), 312);
        Due.due("waits", x.receive(1, true), BLOCKED);
        Due.due("receiving from", x.at(3, 2), 1);
        Due.due("state", x.at(3, 1), 3);
    }

    private static void receiveOrder() {
        ReviveKernel x = new ReviveKernel();
        x.birth(2, 1023);
        x.alarm(1);
        x.watch(1);
        x.watch(0);
        x.serve(1, 3, 50);
        x.serve(0, 3, 50);
        x.tick(1);
        x.birth(1, 1023);
        Due.due("running", x.running(), 3);
        x.post(0, 1);
        x.note(0);
        x.send(0, 2);
        x.end(2);
        x.birth(1, 1023);
        Due.due("running", x.running(), 18);
        x.post(0, 3);
        x.note(0);
        x.send(0, 4);
        Due.due("notes", x.at(0, 6), 5);
        int[] sorts = {1, 1, 1, 1, 1, 2, 2};
        int[] sources = {18, 3, -2, -3, -4, 3, 18};
        for (int i = 0; i < sorts.length; i++) {
            Due.due("sort " + i, x.receive(ANY, true), sorts[i]);
            Due.due("source " + i, x.at(0, 10), sources[i]);
            Due.due("sort got " + i, x.at(0, 11), sorts[i]);
        }
        Due.due("message last", x.receive(ANY, true), 0);
        Due.due("of the first in the queue", x.at(0, 10), 3);
    }

    private static void receiveThatDoesNotWait() {
        ReviveKernel x = withProcesses(2);
        Due.due("nothing", x.receive(ANY, false), NOTHING);
        Due.due("nothing of 1", x.receive(1, false), NOTHING);
        Due.due("ready", x.at(0, 1), 1);
        x.receive(1, true);
        Due.due("NOTHING before DEADLOCK", x.receive(0, false), NOTHING);
        Due.due("DEADLOCK", x.receive(0, true), DEADLOCK);
        Due.due("ready", x.at(1, 1), 1);
    }

    private static void deadlocks() {
        ReviveKernel x = withProcesses(2);
        x.send(1, 1);
        Due.due("send to one that is sending to it", x.send(0, 1), DEADLOCK);
        Due.due("call to one that is sending to it", x.call(0, 1), DEADLOCK);
        Due.due("runs on", x.running(), 1);
        Due.due("no queue", x.at(0, 5), 0);
        x.receive(0, true);
        x.receive(0, true);
        Due.due("receive from one that receives from it", x.receive(1, true), DEADLOCK);
        Due.due("send to one that receives from it", x.send(1, 3), 0);
        x.call(1, 1);
        x.receive(0, true);
        Due.due("receive from one that awaits it", x.receive(0, true), DEADLOCK);
        Due.due("receive from any is none", x.receive(ANY, true), BLOCKED);
    }

    private static void deadlockAlongAChain() {
        ReviveKernel x = withProcesses(5);
        x.receive(4, true);
        x.send(0, 1);
        x.call(1, 1);
        x.receive(2, true);
        Due.due("send", x.send(3, 1), DEADLOCK);
        Due.due("call", x.call(2, 1), DEADLOCK);
        Due.due("receive", x.receive(3, true), DEADLOCK);
        Due.due("receive", x.receive(1, true), DEADLOCK);
        Due.due("the one that takes comes first", x.send(0, 9), 0);
        Due.due("nobody is stuck behind 4 now", x.send(3, 1), BLOCKED);

        ReviveKernel y = withProcesses(4);
        y.receive(ANY, true);
        y.receive(0, true);
        y.receive(1, true);
        Due.due("who receives from any is stuck behind none", y.send(2, 1), BLOCKED);
    }

    private static void wakingALesserRow() {
        ReviveKernel x = new ReviveKernel();
        x.birth(0, 1023);
        x.birth(2, 1023);
        x.birth(2, 1023);
        x.send(1, 5);
        Due.due("1 runs", x.running(), 1);
        Due.due("it receives", x.receive(ANY, true), 0);
        Due.due("the sender runs, its row is less", x.running(), 0);
        Due.due("1 kept its place", x.at(1, 9), 0);
    }
}
