/** The edges that the document names in promises 23 and 25: at and total, a method for each. */
public final class EdgesOfViewsTest {
    private static final int BAD = ReviveKernel.BAD, STALE = ReviveKernel.STALE;
    private static final int ANY = Scene.ANY, LEAST = Scene.LEAST, MOST = Scene.MOST;

    public static void main(String[] args) {
        looksChangeNothing();
        atOfNone();
        atOfOthers();
        endpointAndState();
        whomItWaitsFor();
        priorityAndTicks();
        queueNotesAndLetters();
        lettersOfItsOwn();
        placeInItsRow();
        gotNothing();
        gotLatest();
        resultOfTheLatestWaiting();
        resultOfCallsThatDoNotWait();
        ticksTillItsAlarm();
        totalOfOthers();
        totalOfEach();
        totalsOfWhatWasNotGot();
        Due.close("EdgesOfViewsTest");
    }

    private static ReviveKernel busy() {
        ReviveKernel x = Scene.of(0, 1, 2, 1, 1);
        Scene.fillMemory(x);
        x.watch(0);
        x.alarm(9);
        x.serve(0, 1, 3);
        x.serve(1, 2, 50);
        x.note(1);
        x.post(2, 7);
        x.call(2, 8);
        x.receive(3, true);
        x.tick(2);
        return x;
    }

    // at(), service(), total(), memory() and running() are asked, and nothing is done.
    private static void looksChangeNothing() {
        ReviveKernel x = busy();
        ReviveKernel y = busy();
        String first = Scene.look(x);
        Due.due("a second look is the same", Scene.look(x).equals(first), true);
        for (int number : new int[] {-1, 15, LEAST, MOST}) {
            x.at(number, number);
            x.at(0, number);
            x.service(number, 0);
            x.service(0, number);
            x.total(number);
            x.memory(number, number);
        }
        Due.due("nor do wrong numbers change anything", Scene.look(x).equals(first), true);
        Due.due("ticks", x.tick(30), y.tick(30));
        Due.due("one that was looked at goes on as another", Scene.look(x).equals(Scene.look(y)), true);
    }

    // Promise 23: "BAD if there is none"
    private static void atOfNone() {
        ReviveKernel x = Scene.row(2);
        x.end(0);
        for (int slot : new int[] {-1, 0, 2, 9, 10, 16, LEAST, MOST}) {
            for (int what = -1; what <= 15; what++) {
                Due.due("at " + slot + ", " + what, x.at(slot, what), BAD);
            }
        }
        Due.due("the one that is there", x.at(1, 0), 1);
    }

    // Promise 23: "or for others"
    private static void atOfOthers() {
        ReviveKernel x = Scene.row(10);
        for (int slot = 0; slot < 10; slot++) {
            for (int what : new int[] {-1, -2, 15, 16, 100, LEAST, MOST}) {
                Due.due("at " + slot + ", " + what, x.at(slot, what), BAD);
            }
        }
    }

    // Promise 23: "0: endpoint, 1: 1 READY, 2 SENDING, 3 RECEIVING, 4 AWAITING"
    private static void endpointAndState() {
        ReviveKernel x = Scene.row(5);
        x.end(4);
        x.birth(1, 1023);
        Due.due("endpoint", x.at(4, 0), 20);
        for (int slot = 0; slot < 5; slot++) {
            Due.due("READY " + slot, x.at(slot, 1), 1);
        }
        x.receive(ANY, true);
        x.receive(3, true);
        x.send(3, 1);
        Due.due("RECEIVING from ANY", x.at(0, 1), 3);
        Due.due("RECEIVING from one", x.at(1, 1), 3);
        Due.due("SENDING", x.at(2, 1), 2);
        x.call(0, 1);
        Due.due("AWAITING", x.at(3, 1), 4);
        Due.due("READY again", x.at(0, 1), 1);
    }

    // Promise 23: "2: the endpoint of the one it is SENDING to, RECEIVING from (-1 ANY), AWAITING (its own if READY)"
    private static void whomItWaitsFor() {
        ReviveKernel x = Scene.row(5);
        x.end(0);
        x.birth(3, 1023);
        x.end(4);
        x.birth(1, 1023);
        Due.due("its own", x.at(0, 2), 16);
        Due.due("its own", x.at(1, 2), 1);
        x.receive(ANY, true);
        x.receive(20, true);
        x.send(20, 1);
        x.call(16, 1);
        Due.due("ANY", x.at(1, 2), -1);
        Due.due("RECEIVING from", x.at(2, 2), 20);
        Due.due("SENDING to", x.at(3, 2), 20);
        Due.due("SENDING to, of a call", x.at(4, 2), 16);
        Due.due("0 gets it", x.receive(ANY, true), 0);
        Due.due("AWAITING", x.at(4, 2), 16);
        x.send(20, 1);
        Due.due("its own again", x.at(4, 2), 20);
        x.end(4);
        Due.due("its own when that one ended", x.at(2, 2), 2);
        Due.due("its own when that one ended", x.at(3, 2), 3);
    }

    private static void priorityAndTicks() {
        ReviveKernel x = Scene.of(0, 3);
        int[][] due = {{0, 4}, {0, 3}, {0, 2}, {0, 1}, {1, 4}, {1, 3}};
        for (int time = 0; time < due.length; time++) {
            Due.due("PRIORITY at " + time, x.at(0, 3), due[time][0]);
            Due.due("TICKS at " + time, x.at(0, 4), due[time][1]);
            x.tick(1);
        }
        Due.due("of one that did not run", x.at(1, 3), 3);
        Due.due("of one that did not run", x.at(1, 4), 4);
    }

    // Promise 23: "5: how many are in its queue, 6: how many notes, 7: letters it has"
    private static void queueNotesAndLetters() {
        ReviveKernel x = Scene.of(3, 1, 1, 1);
        for (int slot = 1; slot < 4; slot++) {
            x.note(0);
            for (int i = 0; i < slot; i++) {
                x.post(0, i);
            }
            x.send(0, slot);
            Due.due("queue", x.at(0, 5), slot);
            Due.due("notes", x.at(0, 6), slot);
            Due.due("letters", x.at(0, 7), slot * (slot + 1) / 2);
            Due.due("of its own it has none", x.at(slot, 5) + x.at(slot, 6) + x.at(slot, 7), 0);
        }
        for (int left = 2; left >= 0; left--) {
            x.receive(ANY, false);
            Due.due("notes", x.at(0, 6), left);
        }
        for (int left = 5; left >= 0; left--) {
            x.receive(ANY, false);
            Due.due("letters", x.at(0, 7), left);
        }
        for (int left = 2; left >= 0; left--) {
            x.receive(ANY, false);
            Due.due("queue", x.at(0, 5), left);
            x.receive(ANY, true);
        }
    }

    // Promise 23: "8: how many of its own were not got"
    private static void lettersOfItsOwn() {
        ReviveKernel x = Scene.of(1, 2, 3);
        x.post(1, 1);
        x.post(2, 2);
        Due.due("two", x.at(0, 8), 2);
        Due.due("others' are not its own", x.at(1, 8) + x.at(2, 8), 0);
        x.receive(ANY, true);
        x.post(0, 3);
        Due.due("one that is taken", x.at(1, 8), 0);
        x.receive(ANY, true);
        x.receive(0, true);
        Due.due("one was got", x.at(0, 8), 1);
        x.end(2);
        Due.due("the other one is there no more", x.at(0, 8), 0);
    }

    // Promise 23: "9: the place in its row (0 the first; -1 if it waits)"
    private static void placeInItsRow() {
        ReviveKernel x = Scene.of(2, 1, 2, 1, 2, 1, 3, 0);
        int[] places = {0, 0, 1, 1, 2, 2, 0, 0};
        for (int slot = 0; slot < places.length; slot++) {
            Due.due("place of " + slot, x.at(slot, 9), places[slot]);
        }
        x.receive(ANY, true);
        x.send(0, 1);
        x.call(0, 1);
        Due.due("RECEIVING", x.at(7, 9), -1);
        Due.due("SENDING", x.at(1, 9), -1);
        Due.due("SENDING, of a call", x.at(3, 9), -1);
        Due.due("5 moved up", x.at(5, 9), 0);
        x.leave();
        x.receive(3, true);
        Due.due("AWAITING", x.at(3, 9), -1);
        Due.due("0 is the first", x.at(0, 9), 0);
    }

    // Promise 23: "10 .. 12: SOURCE, sort, value of what it got latest (0 if nothing)"
    private static void gotNothing() {
        ReviveKernel x = Scene.of(3, 1, 1);
        Scene.letRun(x, 2);
        x.post(1, 9);
        Due.due("1 got of 2", x.at(1, 10), 2);
        Due.due("sort", x.at(1, 11), 2);
        Due.due("value", x.at(1, 12), 9);
        x.end(1);
        x.birth(1, 1023);
        x.note(17);
        x.post(17, 1);
        for (int what = 10; what <= 12; what++) {
            Due.due("the next one got nothing, " + what, x.at(1, what), 0);
            Due.due("nor did 0, " + what, x.at(0, what), 0);
        }
        x.receive(ANY, false);
        for (int what = 10; what <= 12; what++) {
            Due.due("nor did one that looked and found nothing, " + what, x.at(2, what), 0);
        }
    }

    private static void gotLatest() {
        ReviveKernel x = Scene.of(3, 1);
        x.note(0);
        x.post(0, 70);
        x.send(0, 80);
        int[][] due = {{1, 1, 0}, {1, 2, 70}, {1, 0, 80}};
        for (int[] parts : due) {
            x.receive(1, true);
            for (int part = 0; part < 3; part++) {
                Due.due("part " + part, x.at(0, 10 + part), parts[part]);
            }
        }
        x.receive(ANY, true);
        x.alarm(1);
        x.tick(1);
        x.receive(ANY, true);
        int[] clock = {-2, 1, 0};
        for (int part = 0; part < 3; part++) {
            Due.due("of the clock, part " + part, x.at(0, 10 + part), clock[part]);
        }
        x.receive(1, false);
        x.receive(1, true);
        for (int part = 0; part < 3; part++) {
            Due.due("waiting changes nothing, part " + part, x.at(0, 10 + part), clock[part]);
        }
        x.end(1);
        for (int part = 0; part < 3; part++) {
            Due.due("nor does a waiting in vain, part " + part, x.at(0, 10 + part), clock[part]);
        }
    }

    // Promise 23: "13: result of the latest waiting (0 from its beginning on, or STALE when it ended so)"
    private static void resultOfTheLatestWaiting() {
        ReviveKernel x = Scene.of(0, 1, 3);
        Due.due("it never waited", x.at(0, 13), 0);
        for (int way = 0; way < 4; way++) {
            int other = x.at(1, 0);
            Due.due("0 runs", x.running(), 0);
            switch (way) {
                case 0: x.send(other, 1); break;
                case 1: x.receive(other, true); break;
                case 2: x.call(other, 1); break;
                default: x.call(other, 1); x.receive(0, true); break;
            }
            Due.due("0 from its beginning on", x.at(0, 13), 0);
            x.end(1);
            Due.due("STALE when it ended so", x.at(0, 13), STALE);
            x.birth(1, 1023);
            Due.due("STALE still", x.at(0, 13), STALE);
        }
        x.receive(ANY, true);
        Due.due("0 from the beginning of the next one on", x.at(0, 13), 0);
        x.note(0);
        Due.due("0 when it ended well", x.at(0, 13), 0);
        x.receive(x.at(1, 0), true);
        x.end(1);
        Due.due("STALE", x.at(0, 13), STALE);
        x.end(0);
        x.birth(0, 1023);
        Due.due("the next one in the slot never waited", x.at(0, 13), 0);
    }

    // The latest waiting is the latest still when a call does not wait.
    private static void resultOfCallsThatDoNotWait() {
        ReviveKernel x = Scene.of(1, 1, 1);
        Scene.letRun(x, 1);
        x.receive(2, true);
        x.end(2);
        Due.due("STALE", x.at(1, 13), STALE);
        Due.due("send that is taken", x.send(0, 1), 0);
        x.note(0);
        x.post(0, 1);
        x.send(9, 1);
        x.receive(ANY, false);
        x.receive(9, true);
        Due.due("STALE still", x.at(1, 13), STALE);
        x.send(0, 1);
        Due.due("a waiting", x.at(1, 1), Scene.SENDING);
        Due.due("0", x.at(1, 13), 0);
        ReviveKernel y = Scene.of(1, 1, 1);
        Scene.letRun(y, 1);
        y.receive(2, true);
        y.end(2);
        y.call(0, 1);
        Due.due("a call that is got at once begins a waiting", y.at(1, 13), 0);
    }

    // Promise 23: "14: ticks till its alarm (0 none)"
    private static void ticksTillItsAlarm() {
        ReviveKernel x = Scene.of(1, 1);
        Due.due("none", x.at(0, 14), 0);
        x.alarm(100);
        for (int left = 100; left >= 0; left -= 20) {
            Due.due("left", x.at(0, 14), left);
            Due.due("the other one has none", x.at(1, 14), 0);
            if (left > 0) {
                x.tick(20);
            }
        }
        x.tick(1);
        Due.due("none", x.at(0, 14), 0);
    }

    // Promise 25: "BAD for others"
    private static void totalOfOthers() {
        ReviveKernel x = Scene.row(3);
        for (int what : new int[] {-1, -2, 7, 8, 100, LEAST, MOST}) {
            Due.due("total " + what, x.total(what), BAD);
        }
    }

    // Promise 25: each number of its own.
    private static void totalOfEach() {
        ReviveKernel x = Scene.row(3);
        int[] due = {0, 3, 0, 0, 0, 0, 0};
        totals(x, due);
        x.tick(3);
        due[0] = 3;
        totals(x, due);
        x.lend(0, ANY, 0, 16, 3);
        Scene.letRun(x, 1);
        x.note(0);
        due[3] = 1;
        totals(x, due);
        x.post(2, 1);
        totals(x, due);
        x.copy(0, 0, 0, 0, 16, false);
        due[6] = 16;
        totals(x, due);
        x.copy(0, 0, 3, 0, 2, true);
        due[6] = 18;
        totals(x, due);
        x.send(2, 5);
        Due.due("2 runs", x.running(), 2);
        x.receive(ANY, true);
        due[4] = 1;
        totals(x, due);
        x.receive(ANY, true);
        due[2] = 1;
        totals(x, due);
        x.leave();
        due[5] = 1;
        due[1] = 2;
        totals(x, due);
        x.end(0);
        due[5] = 2;
        due[1] = 1;
        totals(x, due);
        x.birth(1, 1023);
        due[1] = 2;
        totals(x, due);
    }

    private static void totals(ReviveKernel x, int[] due) {
        for (int what = 0; what < due.length; what++) {
            Due.due("total " + what, x.total(what), due[what]);
        }
    }

    // "messages got, .. notes got, .. letters got": what was left or sent to one that ended was not.
    private static void totalsOfWhatWasNotGot() {
        ReviveKernel x = Scene.of(3, 1);
        x.note(0);
        x.post(0, 1);
        x.send(0, 1);
        x.end(0);
        totals(x, new int[] {0, 1, 0, 0, 0, 1, 0});
    }
}
