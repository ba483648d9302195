/** Promises 23 and 25: at, total. */
public final class ViewsTest {
    private static final int BAD = ReviveKernel.BAD;
    private static final int ANY = -1;

    public static void main(String[] args) {
        wrongNumbers();
        aNewProcess();
        states();
        latestGot();
        results();
        totals();
        Due.close("ViewsTest");
    }

    private static void wrongNumbers() {
        ReviveKernel x = new ReviveKernel();
        x.birth(1, 0);
        for (int slot : new int[] {-1, 1, 9, 10, 16, Integer.MAX_VALUE, Integer.MIN_VALUE}) {
            for (int what = 0; what < 15; what++) {
                Due.due("at " + slot + ", " + what, x.at(slot, what), BAD);
            }
        }
        for (int what : new int[] {-1, 15, 16, Integer.MAX_VALUE, Integer.MIN_VALUE}) {
            Due.due("at 0, " + what, x.at(0, what), BAD);
        }
        for (int what : new int[] {-1, 7, 8, Integer.MAX_VALUE, Integer.MIN_VALUE}) {
            Due.due("total " + what, x.total(what), BAD);
        }
        x.end(0);
        for (int what = 0; what < 15; what++) {
            Due.due("of an ended one " + what, x.at(0, what), BAD);
        }
    }

    private static void aNewProcess() {
        ReviveKernel x = new ReviveKernel();
        x.birth(2, 1023);
        x.receive(ANY, true);
        x.birth(1, 1023);
        x.birth(3, 1023);
        x.send(0, 9);
        x.alarm(7);
        x.tick(4);
        x.post(1, 8);
        x.receive(1, true);
        x.receive(0, true);
        x.send(2, 7);
        x.end(2);
        Due.due("the one before got a letter", x.at(1, 12), 8);
        Due.due("and waited in vain", x.at(1, 13), ReviveKernel.STALE);
        x.post(0, 6);
        x.note(0);
        x.end(1);
        x.end(0);
        x.birth(0, 0);
        x.birth(3, 0);
        int[] due = {17, 1, 17, 3, 4, 0, 0, 0, 0, 0, 0, 0, 0, 0, 0};
        for (int what = 0; what < due.length; what++) {
            Due.due("new one " + what, x.at(1, what), due[what]);
        }
        x.tick(1);
        for (int what = 0; what < due.length; what++) {
            Due.due("new one a tick later " + what, x.at(1, what), due[what]);
        }
    }

    private static void states() {
        ReviveKernel x = new ReviveKernel();
        for (int slot = 0; slot < 5; slot++) {
            x.birth(1, 1023);
        }
        x.send(4, 1);
        x.receive(4, true);
        x.receive(ANY, true);
        x.call(2, 1);
        int[][] due = {{2, 4, -1}, {3, 4, -1}, {1, 2, 1}, {4, 2, -1}, {1, 4, 0}};
        for (int slot = 0; slot < 5; slot++) {
            Due.due("state of " + slot, x.at(slot, 1), due[slot][0]);
            Due.due("whom " + slot, x.at(slot, 2), due[slot][1]);
            Due.due("place of " + slot, x.at(slot, 9), due[slot][2]);
            Due.due("endpoint of " + slot, x.at(slot, 0), slot);
        }
        Due.due("queue of 4", x.at(4, 5), 1);
        Due.due("who receives is in no queue", x.at(2, 5), 0);
    }

    private static void latestGot() {
        ReviveKernel x = new ReviveKernel();
        x.birth(2, 1023);
        x.birth(1, 1023);
        x.post(0, 70);
        x.note(0);
        x.send(0, 80);
        int[][] due = {{1, 1, 0}, {1, 2, 70}, {1, 0, 80}};
        for (int[] d : due) {
            x.receive(ANY, false);
            for (int part = 0; part < 3; part++) {
                Due.due("part " + part + " of sort " + d[1], x.at(0, 10 + part), d[part]);
            }
        }
        x.end(1);
        Due.due("the source is as it was", x.at(0, 10), 1);
        Due.due("the value is as it was", x.at(0, 12), 80);
        x.receive(ANY, false);
        Due.due("getting nothing changes nothing", x.at(0, 12), 80);
    }

    private static void results() {
        ReviveKernel x = new ReviveKernel();
        x.birth(1, 1023);
        x.birth(1, 1023);
        x.birth(1, 1023);
        x.send(1, 1);
        x.end(1);
        Due.due("STALE", x.at(0, 13), ReviveKernel.STALE);
        x.receive(0, true);
        Due.due("running", x.running(), 0);
        x.note(2);
        x.receive(2, false);
        Due.due("STALE until it waits again", x.at(0, 13), ReviveKernel.STALE);
        Due.due("the one that took has 0", x.at(2, 13), 0);
        x.receive(2, true);
        Due.due("0 while it waits", x.at(0, 13), 0);
        x.note(0);
        Due.due("0 when it took", x.at(0, 13), 0);

        ReviveKernel y = new ReviveKernel();
        y.birth(1, 1023);
        y.birth(1, 1023);
        y.birth(3, 1023);
        y.receive(1, true);
        y.leave();
        Due.due("STALE", y.at(0, 13), ReviveKernel.STALE);
        y.note(2);
        y.birth(0, 1023);
        y.receive(ANY, true);
        Due.due("a call that is got at once", y.call(17, 1), ReviveKernel.BLOCKED);
        Due.due("waits with 0", y.at(0, 13), 0);
    }

    private static void totals() {
        ReviveKernel x = new ReviveKernel();
        x.birth(1, 1023);
        x.birth(1, 1023);
        x.birth(1, 1023);
        x.lend(0, ANY, 0, 16, 3);
        x.receive(ANY, true);
        x.post(0, 1);
        x.copy(0, 0, 0, 0, 5, false);
        x.copy(0, 0, 0, 0, 2, true);
        x.note(2);
        x.send(2, 1);
        x.receive(ANY, true);
        x.receive(ANY, true);
        x.tick(3);
        x.end(1);
        int[] due = {3, 2, 1, 1, 1, 1, 7};
        for (int what = 0; what < due.length; what++) {
            Due.due("total " + what, x.total(what), due[what]);
        }
    }
}
