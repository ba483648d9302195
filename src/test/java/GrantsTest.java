/** Promises 10 to 13, 20, 21 and what 26 says of copy: lend, pass, revoke, copy, poke, memory. */
public final class GrantsTest {
    private static final int BAD = ReviveKernel.BAD, STALE = ReviveKernel.STALE, DENIED = ReviveKernel.DENIED;
    private static final int NOTHING = ReviveKernel.NOTHING;
    private static final int ANY = -1;
    private static final int READ = 1, WRITE = 2, BOTH = 3;

    public static void main(String[] args) {
        pokes();
        lendRefusals();
        passRefusals();
        revokes();
        copyRefusals();
        copiesBothWays();
        rightsAndBounds();
        toWhom();
        chains();
        chainsToWhom();
        longestChain();
        endedGranters();
        orderOnTheWay();
        overlaps();
        Due.close("GrantsTest");
    }

    /** Processes 0 .. n - 1, all in row 1; word a of slot s is 100 s + a + 1; process 0 runs. */
    private static ReviveKernel withProcesses(int n) {
        ReviveKernel x = new ReviveKernel();
        for (int slot = 0; slot < n; slot++) {
            x.birth(1, 1023);
            for (int a = 0; a < 16; a++) {
                x.poke(slot, a, 100 * slot + a + 1);
            }
        }
        return x;
    }

    /** The one that runs lets the next one run. */
    private static void next(ReviveKernel x) {
        Due.due("next", x.receive(ANY, true), ReviveKernel.BLOCKED);
    }

    private static void pokes() {
        ReviveKernel x = new ReviveKernel();
        Due.due("poke nobody", x.poke(0, 0, 1), false);
        Due.due("memory of nobody", x.memory(0, 0), 0);
        x.birth(0, 0);
        x.birth(0, 0);
        for (int a = 0; a < 16; a++) {
            Due.due("0 at first", x.memory(0, a), 0);
            Due.due("poke", x.poke(0, a, 50 - 10 * a), true);
        }
        for (int a = 0; a < 16; a++) {
            Due.due("memory", x.memory(0, a), 50 - 10 * a);
            Due.due("the other one's", x.memory(1, a), 0);
        }
        int[][] wrong = {{0, -1}, {0, 16}, {-1, 0}, {10, 0}, {2, 0}, {0, Integer.MAX_VALUE}, {Integer.MIN_VALUE, 1}};
        for (int[] w : wrong) {
            Due.due("poke " + w[0] + ", " + w[1], x.poke(w[0], w[1], 7), false);
            Due.due("memory " + w[0] + ", " + w[1], x.memory(w[0], w[1]), 0);
        }
        x.end(0);
        Due.due("poke an ended one", x.poke(0, 0, 1), false);
        Due.due("memory of an ended one", x.memory(0, 0), 0);
        x.birth(0, 0);
        Due.due("memory of the next one", x.memory(0, 0), 0);
    }

    private static void lendRefusals() {
        ReviveKernel none = new ReviveKernel();
        Due.due("nobody lends", none.lend(0, ANY, 0, 1, 1), BAD);
        ReviveKernel x = withProcesses(2);
        Due.due("id -1", x.lend(-1, 1, 0, 1, 1), BAD);
        Due.due("id 4", x.lend(4, 1, 0, 1, 1), BAD);
        Due.due("first -1", x.lend(0, 1, -1, 1, 1), BAD);
        Due.due("first 16", x.lend(0, 1, 16, 1, 1), BAD);
        Due.due("length 0", x.lend(0, 1, 0, 0, 1), BAD);
        Due.due("length 17", x.lend(0, 1, 0, 17, 1), BAD);
        Due.due("length 2 of 15", x.lend(0, 1, 15, 2, 1), BAD);
        Due.due("great first", x.lend(0, 1, Integer.MAX_VALUE, 1, 1), BAD);
        Due.due("great length", x.lend(0, 1, 1, Integer.MAX_VALUE, 1), BAD);
        Due.due("least length", x.lend(0, 1, 0, Integer.MIN_VALUE, 1), BAD);
        Due.due("how 0", x.lend(0, 1, 0, 1, 0), BAD);
        Due.due("how 4", x.lend(0, 1, 0, 1, 4), BAD);
        Due.due("to nobody", x.lend(0, 2, 0, 1, 1), STALE);
        Due.due("to -2", x.lend(0, -2, 0, 1, 1), STALE);
        Due.due("to itself", x.lend(0, 0, 0, 1, 1), BAD);
        Due.due("BAD before STALE", x.lend(0, 2, 0, 1, 4), BAD);
        Due.due("no grant was made", x.revoke(0), NOTHING);
        Due.due("all", x.lend(3, 1, 0, 16, 3), 0);
        Due.due("last word", x.lend(0, ANY, 15, 1, 2), 0);
        ReviveKernel masked = new ReviveKernel();
        masked.birth(1, 0);
        masked.birth(1, 0);
        Due.due("lend heeds no mask", masked.lend(0, 1, 0, 1, 1), 0);
        Due.due("pass heeds no mask", masked.pass(0, 1, 1, 0), 0);
    }

    private static void passRefusals() {
        ReviveKernel none = new ReviveKernel();
        Due.due("nobody passes", none.pass(0, ANY, 0, 0), BAD);
        ReviveKernel x = withProcesses(3);
        Due.due("id -1", x.pass(-1, 1, 2, 0), BAD);
        Due.due("id 4", x.pass(4, 1, 2, 0), BAD);
        Due.due("grant -1", x.pass(0, 1, 2, -1), BAD);
        Due.due("grant 4", x.pass(0, 1, 2, 4), BAD);
        Due.due("BAD before STALE", x.pass(0, 5, 5, 4), BAD);
        Due.due("to nobody", x.pass(0, 5, 2, 0), STALE);
        Due.due("to itself", x.pass(0, 0, 2, 0), BAD);
        Due.due("of nobody", x.pass(0, 1, 5, 0), STALE);
        Due.due("of any", x.pass(0, 1, ANY, 0), STALE);
        Due.due("of its own", x.pass(0, 1, 0, 0), BAD);
        Due.due("to is looked at first: stale", x.pass(0, 5, 0, 0), STALE);
        Due.due("to is looked at first: own", x.pass(0, 0, 5, 0), BAD);
        Due.due("to any, of its own", x.pass(0, ANY, 0, 0), BAD);
        Due.due("no grant was made", x.revoke(0), NOTHING);
        Due.due("of a grant that is none", x.pass(0, 1, 2, 3), 0);
        Due.due("to the granter", x.pass(1, 2, 2, 0), 0);
        Due.due("to any", x.pass(3, ANY, 2, 0), 0);
    }

    private static void revokes() {
        ReviveKernel x = new ReviveKernel();
        Due.due("nobody revokes", x.revoke(0), BAD);
        x = withProcesses(2);
        Due.due("id -1", x.revoke(-1), BAD);
        Due.due("id 4", x.revoke(4), BAD);
        for (int id = 0; id < 4; id++) {
            Due.due("none", x.revoke(id), NOTHING);
        }
        x.lend(0, 1, 0, 4, READ);
        x.lend(1, 1, 0, 4, READ);
        x.pass(2, 1, 1, 0);
        Due.due("lent", x.revoke(0), 0);
        Due.due("again", x.revoke(0), NOTHING);
        Due.due("passed", x.revoke(2), 0);
        Due.due("again", x.revoke(2), NOTHING);
        next(x);
        Due.due("revoked", x.copy(0, 0, 0, 0, 1, false), DENIED);
        Due.due("not revoked", x.copy(0, 1, 0, 0, 1, false), 0);
        x.pass(0, 0, 0, 1);
        x.end(0);
        Due.due("a grant to an ended one is one still", x.revoke(0), 0);
    }

    private static void copyRefusals() {
        ReviveKernel none = new ReviveKernel();
        Due.due("nobody copies", none.copy(0, 0, 0, 0, 1, false), BAD);
        ReviveKernel x = withProcesses(2);
        x.lend(0, 1, 0, 16, BOTH);
        next(x);
        Due.due("grant -1", x.copy(0, -1, 0, 0, 1, false), BAD);
        Due.due("grant 4", x.copy(0, 4, 0, 0, 1, false), BAD);
        Due.due("n 0", x.copy(0, 0, 0, 0, 0, false), BAD);
        Due.due("n 17", x.copy(0, 0, 0, 0, 17, false), BAD);
        Due.due("n -1", x.copy(0, 0, 0, 0, -1, false), BAD);
        Due.due("least n", x.copy(0, 0, 0, 0, Integer.MIN_VALUE, false), BAD);
        Due.due("at -1", x.copy(0, 0, 0, -1, 1, false), BAD);
        Due.due("at 16", x.copy(0, 0, 0, 16, 1, false), BAD);
        Due.due("at 15, n 2", x.copy(0, 0, 0, 15, 2, false), BAD);
        Due.due("great at", x.copy(0, 0, 0, Integer.MAX_VALUE, 16, false), BAD);
        Due.due("BAD before STALE", x.copy(7, 0, 0, 0, 0, false), BAD);
        Due.due("of nobody", x.copy(7, 0, 0, 0, 1, false), STALE);
        Due.due("of any", x.copy(ANY, 0, 0, 0, 1, false), STALE);
        Due.due("of its own", x.copy(1, 0, 0, 0, 1, false), BAD);
        Due.due("a grant that is none", x.copy(0, 1, 0, 0, 1, false), DENIED);
        Due.due("nothing was copied", x.total(6), 0);
        Due.due("all 16", x.copy(0, 0, 0, 0, 16, false), 0);
        Due.due("copied", x.total(6), 16);
        Due.due("at 15", x.copy(0, 0, 0, 15, 1, true), 0);
        Due.due("copied", x.total(6), 17);
    }

    private static void copiesBothWays() {
        ReviveKernel x = withProcesses(2);
        x.lend(2, 1, 4, 8, BOTH);
        next(x);
        Due.due("read", x.copy(0, 2, 1, 10, 3, false), 0);
        Due.due("before", x.memory(1, 9), 110);
        Due.due("first", x.memory(1, 10), 6);
        Due.due("second", x.memory(1, 11), 7);
        Due.due("third", x.memory(1, 12), 8);
        Due.due("after", x.memory(1, 13), 114);
        Due.due("write", x.copy(0, 2, 6, 0, 2, true), 0);
        Due.due("before", x.memory(0, 9), 10);
        Due.due("first", x.memory(0, 10), 101);
        Due.due("second", x.memory(0, 11), 102);
        Due.due("after", x.memory(0, 12), 13);
        Due.due("copied", x.total(6), 5);
    }

    private static void rightsAndBounds() {
        ReviveKernel x = withProcesses(2);
        x.lend(0, 1, 2, 4, READ);
        x.lend(1, 1, 2, 4, WRITE);
        x.lend(2, 1, 2, 4, BOTH);
        next(x);
        Due.due("read of 1", x.copy(0, 0, 0, 0, 1, false), 0);
        Due.due("write of 1", x.copy(0, 0, 0, 0, 1, true), DENIED);
        Due.due("read of 2", x.copy(0, 1, 0, 0, 1, false), DENIED);
        Due.due("write of 2", x.copy(0, 1, 0, 0, 1, true), 0);
        Due.due("read of 3", x.copy(0, 2, 0, 0, 1, false), 0);
        Due.due("write of 3", x.copy(0, 2, 0, 0, 1, true), 0);
        Due.due("offset -1", x.copy(0, 2, -1, 0, 1, false), DENIED);
        Due.due("all", x.copy(0, 2, 0, 0, 4, false), 0);
        Due.due("one more", x.copy(0, 2, 0, 0, 5, false), DENIED);
        Due.due("last", x.copy(0, 2, 3, 0, 1, false), 0);
        Due.due("behind it", x.copy(0, 2, 4, 0, 1, false), DENIED);
        Due.due("over the end", x.copy(0, 2, 3, 0, 2, false), DENIED);
        Due.due("great offset", x.copy(0, 2, Integer.MAX_VALUE, 0, 16, false), DENIED);
        Due.due("least offset", x.copy(0, 2, Integer.MIN_VALUE, 0, 1, false), DENIED);
        Due.due("copied", x.total(6), 9);
    }

    private static void toWhom() {
        ReviveKernel x = withProcesses(3);
        x.lend(0, 1, 0, 4, READ);
        x.lend(1, ANY, 0, 4, READ);
        x.lend(2, 2, 0, 4, READ);
        next(x);
        Due.due("lent to it", x.copy(0, 0, 0, 0, 1, false), 0);
        Due.due("lent to any", x.copy(0, 1, 0, 0, 1, false), 0);
        Due.due("lent to another", x.copy(0, 2, 0, 0, 1, false), DENIED);
        x.leave();
        x.birth(0, 1023);
        Due.due("the next one in the slot runs", x.running(), 17);
        Due.due("lent to the one before", x.copy(0, 0, 0, 0, 1, false), DENIED);
        Due.due("lent to any", x.copy(0, 1, 0, 0, 1, false), 0);
    }

    private static void chains() {
        ReviveKernel x = withProcesses(3);
        x.lend(0, 1, 3, 5, BOTH);
        next(x);
        x.pass(2, 2, 0, 0);
        next(x);
        Due.due("read along a chain", x.copy(1, 2, 1, 0, 4, false), 0);
        Due.due("first", x.memory(2, 0), 5);
        Due.due("last", x.memory(2, 3), 8);
        Due.due("write along a chain", x.copy(1, 2, 0, 15, 1, true), 0);
        Due.due("written", x.memory(0, 3), 216);
        Due.due("the middle one is as before", x.memory(1, 3), 104);
        Due.due("over the end of what was lent", x.copy(1, 2, 2, 0, 4, false), DENIED);
        Due.due("past the middle one", x.copy(0, 0, 0, 0, 1, false), DENIED);
        x.note(0);
        next(x);
        x.lend(0, 1, 3, 5, READ);
        x.note(2);
        next(x);
        Due.due("the right is that of now", x.copy(1, 2, 0, 0, 1, true), DENIED);
        Due.due("read still", x.copy(1, 2, 0, 0, 1, false), 0);
        x.note(0);
        next(x);
        x.revoke(0);
        x.note(2);
        next(x);
        Due.due("the first grant was revoked", x.copy(1, 2, 0, 0, 1, false), DENIED);
    }

    private static void chainsToWhom() {
        ReviveKernel x = withProcesses(4);
        x.lend(0, 3, 0, 4, READ);
        x.lend(1, ANY, 0, 4, READ);
        x.lend(2, 1, 0, 4, READ);
        next(x);
        x.pass(0, 2, 0, 0);
        x.pass(1, ANY, 0, 1);
        x.pass(2, 3, 0, 2);
        x.pass(3, 2, 0, 3);
        next(x);
        Due.due("lent to the reader but not to the one that passed", x.copy(1, 0, 0, 0, 1, false), DENIED);
        Due.due("any and any", x.copy(1, 1, 0, 0, 1, false), 0);
        Due.due("passed to another", x.copy(1, 2, 0, 0, 1, false), DENIED);
        Due.due("passed of none", x.copy(1, 3, 0, 0, 1, false), DENIED);
        next(x);
        Due.due("passed to it", x.copy(1, 2, 0, 0, 1, false), 0);
        Due.due("passed to another", x.copy(1, 3, 0, 0, 1, false), DENIED);
    }

    /** Slot s passes grant 0 of slot s - 1; slot 0 lends. */
    private static ReviveKernel chainOf(int n) {
        ReviveKernel x = withProcesses(n + 1);
        x.lend(0, ANY, 0, 4, READ);
        for (int slot = 1; slot < n; slot++) {
            next(x);
            x.pass(0, ANY, slot - 1, 0);
        }
        next(x);
        return x;
    }

    private static void longestChain() {
        ReviveKernel four = chainOf(4);
        Due.due("four grants", four.copy(3, 0, 0, 0, 1, false), 0);
        ReviveKernel five = chainOf(5);
        Due.due("five grants", five.copy(4, 0, 0, 0, 1, false), DENIED);
        Due.due("four of them", five.copy(3, 0, 0, 0, 1, false), 0);
        five.end(0);
        Due.due("a fourth one that is passed, its granter ended", five.copy(4, 0, 0, 0, 1, false), DENIED);
        Due.due("the fourth granter ended", five.copy(3, 0, 0, 0, 1, false), STALE);

        ReviveKernel circle = withProcesses(3);
        circle.pass(0, ANY, 1, 0);
        next(circle);
        circle.pass(0, ANY, 0, 0);
        next(circle);
        Due.due("a circle", circle.copy(0, 0, 0, 0, 1, false), DENIED);
    }

    private static void endedGranters() {
        for (int ended = 0; ended < 3; ended++) {
            ReviveKernel x = chainOf(3);
            x.end(ended);
            Due.due("granter " + ended + " ended", x.copy(2, 0, 0, 0, 1, false), STALE);
            x.birth(1, 1023);
            Due.due("another one in slot " + ended, x.copy(2, 0, 0, 0, 1, false), STALE);
            Due.due("nothing copied", x.total(6), 0);
        }
    }

    private static void orderOnTheWay() {
        ReviveKernel x = withProcesses(3);
        x.lend(0, 2, 0, 4, READ);
        next(x);
        x.pass(0, 0, 0, 0);
        x.pass(1, 2, 0, 0);
        next(x);
        x.end(0);
        Due.due("not to it, before the next granter is looked at", x.copy(1, 0, 0, 0, 1, false), DENIED);
        Due.due("to it, the next granter ended", x.copy(1, 1, 0, 0, 1, false), STALE);
        Due.due("offset is looked at last", x.copy(1, 1, -1, 0, 1, false), STALE);
        Due.due("right is looked at last", x.copy(1, 1, 0, 0, 1, true), STALE);
    }

    private static void overlaps() {
        for (int shift = -2; shift <= 2; shift++) {
            ReviveKernel x = withProcesses(2);
            x.lend(0, 1, 4, 8, BOTH);
            next(x);
            x.pass(0, 0, 0, 0);
            x.note(0);
            next(x);
            Due.due("0 runs", x.running(), 0);
            Due.due("to its own memory", x.copy(1, 0, 2, 6 + shift, 4, false), 0);
            for (int i = 0; i < 4; i++) {
                Due.due("all read before any is written, " + shift, x.memory(0, 6 + shift + i), 7 + i);
            }
            for (int a = 0; a < 16; a++) {
                x.poke(0, a, a + 1);
            }
            Due.due("from its own memory", x.copy(1, 0, 2, 6 + shift, 4, true), 0);
            for (int i = 0; i < 4; i++) {
                Due.due("all read before any is written, " + shift, x.memory(0, 6 + i), 7 + shift + i);
            }
        }
    }
}
