/** The edges that the document names in promises 10 to 13 and, of copy, in 26, a method for each. */
public final class EdgesOfGrantsTest {
    private static final int BAD = ReviveKernel.BAD, STALE = ReviveKernel.STALE, DENIED = ReviveKernel.DENIED;
    private static final int NOTHING = ReviveKernel.NOTHING;
    private static final int ANY = Scene.ANY, LEAST = Scene.LEAST, MOST = Scene.MOST;
    private static final int READ = 1, WRITE = 2, BOTH = 3;

    public static void main(String[] args) {
        nobodyRuns();
        lendNumbers();
        lendEachPart();
        lendToWhom();
        lendBadBeforeStale();
        refusedLendLeavesTheGrant();
        grantsOfEachSlot();
        lendReplaces();
        passNumbers();
        passLooksAtToFirst();
        passOfNone();
        refusedPassLeavesTheGrant();
        revokeNumbers();
        revokeOfNone();
        copyNumbers();
        copyEachLengthAndPlace();
        copyStaleThenOwnThenDenied();
        copyEachOffset();
        offsetsFarAway();
        copyWithTheRight();
        copyToWhom();
        copyOfNone();
        refusedCopyCountsNothing();
        chainsOfEachLength();
        aFourthThatIsPassed();
        circles();
        aGranterOnTheWayEnded();
        toGranterOnTheWay();
        eachGrantInTurn();
        offsetAndRightLast();
        theLastOneCounts();
        allReadBeforeAnyIsWritten();
        Due.close("EdgesOfGrantsTest");
    }

    private static ReviveKernel filled(int n) {
        ReviveKernel x = Scene.row(n);
        Scene.fillMemory(x);
        return x;
    }

    // "BAD if there is none"
    private static void nobodyRuns() {
        ReviveKernel empty = new ReviveKernel();
        ReviveKernel waiting = Scene.row(2);
        waiting.lend(0, ANY, 0, 16, BOTH);
        waiting.receive(ANY, true);
        waiting.receive(ANY, true);
        for (ReviveKernel x : new ReviveKernel[] {empty, waiting}) {
            for (int other : new int[] {0, 1, 5, ANY}) {
                Due.refused("lend of nobody", x, () -> x.lend(0, other, 0, 1, READ), BAD);
                Due.refused("pass of nobody", x, () -> x.pass(0, other, other, 0), BAD);
                Due.refused("copy of nobody", x, () -> x.copy(other, 0, 0, 0, 1, false), BAD);
            }
            Due.refused("revoke of nobody", x, () -> x.revoke(0), BAD);
        }
    }

    // Promise 10: "BAD unless 0 <= id < 4, 0 <= first", and how is 1, 2 or 3.
    private static void lendNumbers() {
        ReviveKernel x = Scene.row(2);
        for (int id : new int[] {-1, 4, 5, 8, LEAST, MOST}) {
            Due.refused("id " + id, x, () -> x.lend(id, 1, 0, 1, READ), BAD);
        }
        for (int first : new int[] {-1, 16, 17, -16, LEAST, MOST}) {
            Due.refused("first " + first, x, () -> x.lend(0, 1, first, 1, READ), BAD);
        }
        for (int how : new int[] {-1, 0, 4, 5, 7, LEAST, MOST}) {
            Due.refused("how " + how, x, () -> x.lend(0, 1, 0, 1, how), BAD);
        }
        for (int first : new int[] {LEAST, MOST, LEAST + 16, MOST - 15}) {
            for (int length : new int[] {LEAST, MOST, 16}) {
                Due.refused("far away", x, () -> x.lend(0, 1, first, length, READ), BAD);
            }
        }
        for (int id = 0; id < 4; id++) {
            Due.due("none was made", x.revoke(id), NOTHING);
            for (int how = 1; how <= 3; how++) {
                Due.due("id " + id + ", how " + how, x.lend(id, 1, 0, 1, how), 0);
            }
            Due.due("it was made", x.revoke(id), 0);
        }
    }

    // Promise 10: "1 <= length <= 16 - first"
    private static void lendEachPart() {
        for (int first = 0; first < 16; first++) {
            ReviveKernel x = filled(2);
            int f = first;
            Due.refused("length 0", x, () -> x.lend(0, 1, f, 0, READ), BAD);
            Due.refused("length -1", x, () -> x.lend(0, 1, f, -1, READ), BAD);
            Due.refused("one too long", x, () -> x.lend(0, 1, f, 17 - f, READ), BAD);
            Due.refused("the greatest length", x, () -> x.lend(0, 1, f, MOST, READ), BAD);
            Due.refused("the least length", x, () -> x.lend(0, 1, f, LEAST, READ), BAD);
            Due.due("the shortest", x.lend(0, 1, first, 1, READ), 0);
            Due.due("the longest", x.lend(1, 1, first, 16 - first, READ), 0);
            Scene.letRun(x, 1);
            Due.due("the only word", x.copy(0, 0, 0, 0, 1, false), 0);
            Due.due("its value", x.memory(1, 0), first + 1);
            Due.refused("no second word", x, () -> x.copy(0, 0, 1, 0, 1, false), DENIED);
            Due.due("the last word", x.copy(0, 1, 15 - first, 0, 1, false), 0);
            Due.due("its value", x.memory(1, 0), 16);
            Due.refused("none behind it", x, () -> x.copy(0, 1, 16 - f, 0, 1, false), DENIED);
        }
    }

    // Promise 10: "lent to a process or ANY"; its own is BAD, and no MASK holds it back.
    private static void lendToWhom() {
        ReviveKernel x = new ReviveKernel();
        x.birth(1, 0);
        x.birth(1, 0);
        Due.refused("to itself", x, () -> x.lend(0, 0, 0, 1, READ), BAD);
        for (int to : new int[] {-2, -3, 2, 10, 16, 17, LEAST, MOST}) {
            Due.refused("to " + to, x, () -> x.lend(0, to, 0, 1, READ), STALE);
        }
        Due.due("to ANY", x.lend(0, ANY, 0, 1, READ), 0);
        Due.due("to one outside the mask", x.lend(1, 1, 0, 1, READ), 0);
        Scene.letRun(x, 1);
        Due.due("that one reads", x.copy(0, 1, 0, 0, 1, false), 0);
    }

    // "BAD if .. a number is not as said; then STALE"
    private static void lendBadBeforeStale() {
        ReviveKernel x = Scene.row(2);
        Due.refused("id", x, () -> x.lend(4, 7, 0, 1, READ), BAD);
        Due.refused("first", x, () -> x.lend(0, 7, -1, 1, READ), BAD);
        Due.refused("length", x, () -> x.lend(0, 7, 0, 17, READ), BAD);
        Due.refused("how", x, () -> x.lend(0, 7, 0, 1, 0), BAD);
        Due.refused("all as said", x, () -> x.lend(0, 7, 0, 1, READ), STALE);
    }

    // A refused lend leaves the grant that there was.
    private static void refusedLendLeavesTheGrant() {
        ReviveKernel x = filled(2);
        x.lend(2, 1, 4, 4, READ);
        x.lend(2, 1, 0, 17, BOTH);
        x.lend(2, 1, 0, 16, 4);
        x.lend(2, 5, 0, 16, BOTH);
        x.lend(2, 0, 0, 16, BOTH);
        Scene.letRun(x, 1);
        Due.due("it is the one lent first", x.copy(0, 2, 3, 0, 1, false), 0);
        Due.due("its last word", x.memory(1, 0), 8);
        Due.refused("no longer", x, () -> x.copy(0, 2, 4, 0, 1, false), DENIED);
        Due.refused("no other right", x, () -> x.copy(0, 2, 0, 0, 1, true), DENIED);
    }

    // "GRANTS 0 .. 3 of a process": each slot has its own four.
    private static void grantsOfEachSlot() {
        ReviveKernel x = filled(10);
        for (int slot = 0; slot < 10; slot++) {
            Scene.letRun(x, slot);
            for (int id = 0; id < 4; id++) {
                Due.due("none at first", x.revoke(id), NOTHING);
                Due.due("lend", x.lend(id, ANY, 4 * id, 4, READ), 0);
            }
            if (slot == 9) {
                break;
            }
        }
        for (int slot = 0; slot < 9; slot++) {
            for (int id = 0; id < 4; id++) {
                Due.due("copy", x.copy(slot, id, 1, 0, 1, false), 0);
                Due.due("word of " + slot + ", " + id, x.memory(9, 0), 100 * slot + 4 * id + 2);
            }
        }
        x.note(0);
        Scene.letRun(x, 0);
        Due.due("of slot 9", x.copy(9, 3, 3, 15, 1, false), 0);
        Due.due("its last word", x.memory(0, 15), 916);
    }

    // "Grant id becomes": what it was before is no more.
    private static void lendReplaces() {
        ReviveKernel x = filled(3);
        x.lend(0, 1, 0, 16, BOTH);
        x.lend(0, 2, 8, 2, READ);
        x.pass(1, 1, 2, 0);
        x.lend(1, 1, 3, 1, WRITE);
        x.lend(2, 1, 0, 16, BOTH);
        x.pass(2, 1, 2, 0);
        Scene.letRun(x, 1);
        Due.refused("lent to another now", x, () -> x.copy(0, 0, 0, 0, 1, false), DENIED);
        Due.due("lent, no more passed", x.copy(0, 1, 0, 0, 1, true), 0);
        Due.due("written", x.memory(0, 3), 101);
        Due.refused("passed, no more lent", x, () -> x.copy(0, 2, 0, 0, 1, false), DENIED);
        Scene.letRun(x, 2);
        Due.due("the new part", x.copy(0, 0, 1, 0, 1, false), 0);
        Due.due("its word", x.memory(2, 0), 10);
    }

    // Promise 11: "grant number grant (0 .. 3 ..)", and id likewise.
    private static void passNumbers() {
        ReviveKernel x = Scene.row(3);
        for (int number : new int[] {-1, 4, 5, 8, LEAST, MOST}) {
            Due.refused("id " + number, x, () -> x.pass(number, 1, 2, 0), BAD);
            Due.refused("grant " + number, x, () -> x.pass(0, 1, 2, number), BAD);
            Due.refused("BAD before STALE", x, () -> x.pass(number, 7, 8, 0), BAD);
            Due.refused("BAD before STALE", x, () -> x.pass(0, 7, 8, number), BAD);
        }
        for (int number = 0; number < 4; number++) {
            Due.due("id " + number, x.pass(number, 1, 2, 3 - number), 0);
            Due.due("it was made", x.revoke(number), 0);
        }
    }

    // Promise 11: "of another process (granter), passed to a process or ANY (to; looked at first)"
    private static void passLooksAtToFirst() {
        ReviveKernel x = Scene.row(3);
        Due.refused("to is stale, granter fine", x, () -> x.pass(0, 7, 2, 0), STALE);
        Due.refused("to is its own, granter fine", x, () -> x.pass(0, 0, 2, 0), BAD);
        Due.refused("to fine, granter stale", x, () -> x.pass(0, 1, 7, 0), STALE);
        Due.refused("to fine, granter its own", x, () -> x.pass(0, 1, 0, 0), BAD);
        Due.refused("to ANY, granter stale", x, () -> x.pass(0, ANY, 7, 0), STALE);
        Due.refused("to ANY, granter its own", x, () -> x.pass(0, ANY, 0, 0), BAD);
        Due.refused("granter ANY", x, () -> x.pass(0, 1, ANY, 0), STALE);
        Due.refused("to stale, granter its own", x, () -> x.pass(0, 7, 0, 0), STALE);
        Due.refused("to its own, granter stale", x, () -> x.pass(0, 0, 7, 0), BAD);
        Due.refused("both stale", x, () -> x.pass(0, 7, 8, 0), STALE);
        Due.refused("both its own", x, () -> x.pass(0, 0, 0, 0), BAD);
        Due.due("none was made", x.revoke(0), NOTHING);
        Due.due("to the granter itself", x.pass(0, 2, 2, 0), 0);
        Due.due("to ANY", x.pass(1, ANY, 2, 0), 0);
    }

    // Promise 11: "it may be none"; what it is when it is used counts.
    private static void passOfNone() {
        ReviveKernel x = filled(3);
        Due.due("pass", x.pass(0, 2, 1, 3), 0);
        x.receive(2, true);
        x.receive(2, true);
        Due.refused("it is none yet", x, () -> x.copy(0, 0, 0, 0, 1, false), DENIED);
        x.note(1);
        x.receive(1, true);
        Due.due("1 lends to 0", x.lend(3, 0, 5, 1, READ), 0);
        x.note(2);
        x.receive(2, true);
        Due.due("now it is lent", x.copy(0, 0, 0, 0, 1, false), 0);
        Due.due("its word", x.memory(2, 0), 106);
    }

    private static void refusedPassLeavesTheGrant() {
        ReviveKernel x = filled(3);
        x.lend(2, 1, 4, 4, READ);
        x.pass(2, 1, 2, 4);
        x.pass(2, 7, 2, 0);
        x.pass(2, 1, 7, 0);
        x.pass(2, 0, 2, 0);
        x.pass(2, 1, 0, 0);
        Scene.letRun(x, 1);
        Due.due("it is the one lent", x.copy(0, 2, 0, 0, 4, false), 0);
        Due.due("its word", x.memory(1, 3), 8);
    }

    // Promise 12: "BAD"
    private static void revokeNumbers() {
        ReviveKernel x = Scene.row(2);
        for (int id = 0; id < 4; id++) {
            x.lend(id, ANY, 0, 16, BOTH);
        }
        for (int id : new int[] {-1, 4, 5, 8, LEAST, MOST}) {
            Due.refused("revoke " + id, x, () -> x.revoke(id), BAD);
        }
        Scene.letRun(x, 1);
        for (int id = 0; id < 4; id++) {
            Due.due("still granted " + id, x.copy(0, id, 0, 0, 1, false), 0);
            Due.due("the other one's are none", x.revoke(id), NOTHING);
        }
    }

    // Promise 12: "NOTHING if it was none"
    private static void revokeOfNone() {
        ReviveKernel x = Scene.row(3);
        for (int id : new int[] {0, 1, 2, 3}) {
            Due.refused("none at first, " + id, x, () -> x.revoke(id), NOTHING);
        }
        x.lend(1, 2, 0, 1, READ);
        x.pass(3, 2, 1, 0);
        x.end(2);
        Due.due("lent, though to an ended one", x.revoke(1), 0);
        Due.due("passed, though of a none to an ended one", x.revoke(3), 0);
        Due.refused("again", x, () -> x.revoke(1), NOTHING);
        Due.refused("again", x, () -> x.revoke(3), NOTHING);
    }

    // Promise 13: "n words (1 .. 16)", "from at on (at to 16 - n)", and grant is 0 .. 3.
    private static void copyNumbers() {
        ReviveKernel x = filled(2);
        for (int id = 0; id < 4; id++) {
            x.lend(id, 1, 0, 16, BOTH);
        }
        Scene.letRun(x, 1);
        for (int n : new int[] {0, -1, 17, 18, LEAST, MOST}) {
            Due.refused("n " + n, x, () -> x.copy(0, 0, 0, 0, n, false), BAD);
            Due.refused("n " + n, x, () -> x.copy(0, 0, 0, 0, n, true), BAD);
            Due.refused("n " + n + " at -1", x, () -> x.copy(0, 0, 0, -1, n, true), BAD);
        }
        for (int grant : new int[] {-1, 4, 5, LEAST, MOST}) {
            Due.refused("grant " + grant, x, () -> x.copy(0, grant, 0, 0, 1, false), BAD);
            Due.refused("BAD before STALE", x, () -> x.copy(7, grant, 0, 0, 1, false), BAD);
        }
        Due.refused("n, BAD before STALE", x, () -> x.copy(7, 0, 0, 0, 0, false), BAD);
        Due.refused("at, BAD before STALE", x, () -> x.copy(7, 0, 0, 16, 1, false), BAD);
        Due.refused("n, BAD before DENIED", x, () -> x.copy(0, 0, 99, 0, 17, false), BAD);
        for (int id = 0; id < 4; id++) {
            Due.due("grant " + id, x.copy(0, id, 0, 0, 1, false), 0);
        }
    }

    private static void copyEachLengthAndPlace() {
        for (int n = 1; n <= 16; n++) {
            for (int at : new int[] {0, 16 - n}) {
                ReviveKernel x = filled(2);
                x.lend(0, 1, 0, 16, READ);
                Scene.letRun(x, 1);
                int count = n;
                for (int wrong : new int[] {-1, 17 - n, 16, LEAST, MOST}) {
                    Due.refused("at " + wrong + ", n " + n, x, () -> x.copy(0, 0, 0, wrong, count, false), BAD);
                }
                Due.due("at " + at + ", n " + n, x.copy(0, 0, 16 - n, at, n, false), 0);
                for (int a = 0; a < 16; a++) {
                    boolean copied = a >= at && a < at + n;
                    Due.due("word " + a, x.memory(1, a), copied ? 17 - n + a - at : 101 + a);
                    Due.due("the granter's word " + a, x.memory(0, a), a + 1);
                }
                Due.due("words copied", x.total(6), n);
            }
        }
    }

    // "then STALE .., BAD if it is its own", then DENIED of the grant.
    private static void copyStaleThenOwnThenDenied() {
        ReviveKernel x = Scene.row(3);
        x.lend(0, ANY, 0, 16, BOTH);
        for (int granter : new int[] {ANY, -2, 3, 10, 16, 18, LEAST, MOST}) {
            Due.refused("granter " + granter, x, () -> x.copy(granter, 0, 0, 0, 1, false), STALE);
            Due.refused("STALE before offset", x, () -> x.copy(granter, 0, -1, 0, 1, false), STALE);
        }
        Due.refused("its own", x, () -> x.copy(0, 0, 0, 0, 1, false), BAD);
        Due.refused("its own, before offset", x, () -> x.copy(0, 0, -1, 0, 1, false), BAD);
        Due.refused("its own, that is none", x, () -> x.copy(0, 1, 0, 0, 1, false), BAD);
        Due.refused("another one's, that is none", x, () -> x.copy(1, 0, 0, 0, 1, false), DENIED);
    }

    // Promise 13: "offset >= 0, offset + n <= its length"
    private static void copyEachOffset() {
        for (int length = 1; length <= 16; length++) {
            ReviveKernel x = filled(2);
            int first = (16 - length) / 2;
            x.lend(0, 1, first, length, BOTH);
            Scene.letRun(x, 1);
            int l = length;
            Due.refused("offset -1", x, () -> x.copy(0, 0, -1, 0, 1, false), DENIED);
            Due.refused("offset -1, all", x, () -> x.copy(0, 0, -1, 0, l, true), DENIED);
            Due.refused("behind the end", x, () -> x.copy(0, 0, l, 0, 1, false), DENIED);
            if (length < 16) {
                Due.refused("one too many", x, () -> x.copy(0, 0, 0, 0, l + 1, false), DENIED);
                Due.refused("over the end", x, () -> x.copy(0, 0, l - 1, 0, 2, true), DENIED);
            }
            Due.refused("over the end", x, () -> x.copy(0, 0, 1, 0, l, false), DENIED);
            Due.due("the last word", x.copy(0, 0, length - 1, 0, 1, false), 0);
            Due.due("its value", x.memory(1, 0), first + length);
            Due.due("all", x.copy(0, 0, 0, 0, length, false), 0);
            Due.due("the first value", x.memory(1, 0), first + 1);
            Due.due("the last value", x.memory(1, length - 1), first + length);
            Due.due("back", x.copy(0, 0, length - 1, 0, 1, true), 0);
            Due.due("written", x.memory(0, first + length - 1), first + 1);
        }
    }

    private static void offsetsFarAway() {
        ReviveKernel x = filled(2);
        x.lend(0, 1, 8, 8, BOTH);
        Scene.letRun(x, 1);
        for (int offset : new int[] {LEAST, LEAST + 7, LEAST + 15, MOST, MOST - 7, MOST - 15, -8, -16, 8, 16}) {
            for (int n : new int[] {1, 8, 16}) {
                Due.refused("offset " + offset, x, () -> x.copy(0, 0, offset, 0, n, false), DENIED);
                Due.refused("offset " + offset, x, () -> x.copy(0, 0, offset, 0, n, true), DENIED);
            }
        }
    }

    // Promise 10: "to be read (how 1), written (2) or both (3)"; promise 13: "with the right"
    private static void copyWithTheRight() {
        for (int how = 1; how <= 3; how++) {
            ReviveKernel x = filled(3);
            x.lend(0, ANY, 2, 4, how);
            x.receive(2, true);
            x.pass(0, ANY, 0, 0);
            boolean reads = how != WRITE;
            boolean writes = how != READ;
            for (int granter : new int[] {0, 1}) {
                if (granter == 1) {
                    x.receive(2, true);
                }
                int g = granter;
                if (reads) {
                    Due.due("read, how " + how, x.copy(granter, 0, 0, 5, 1, false), 0);
                } else {
                    Due.refused("read, how " + how, x, () -> x.copy(g, 0, 0, 5, 1, false), DENIED);
                }
                if (writes) {
                    Due.due("write, how " + how, x.copy(granter, 0, 1, 6, 1, true), 0);
                } else {
                    Due.refused("write, how " + how, x, () -> x.copy(g, 0, 1, 6, 1, true), DENIED);
                }
            }
            Due.due("what was read", x.memory(2, 5), reads ? 3 : 206);
            Due.due("what was written", x.memory(0, 3), writes ? 207 : 4);
        }
    }

    // Promise 13: "DENIED unless the grant is to RUNNING or ANY"
    private static void copyToWhom() {
        ReviveKernel x = Scene.row(4);
        for (int id = 0; id < 3; id++) {
            x.lend(id, id + 1, 0, 16, BOTH);
        }
        x.lend(3, ANY, 0, 16, BOTH);
        for (int slot = 1; slot < 4; slot++) {
            Scene.letRun(x, slot);
            for (int id = 0; id < 4; id++) {
                int grant = id;
                if (id == 3 || id + 1 == slot) {
                    Due.due("slot " + slot + ", grant " + id, x.copy(0, id, 0, 0, 1, true), 0);
                } else {
                    Due.refused("slot " + slot + ", grant " + id, x, () -> x.copy(0, grant, 0, 0, 1, true), DENIED);
                }
            }
        }
        x.end(3);
        x.birth(1, 1023);
        Due.due("another one in slot 3", x.running(), 19);
        Due.refused("it was lent to the one before", x, () -> x.copy(0, 2, 0, 0, 1, false), DENIED);
        Due.due("ANY is it, too", x.copy(0, 3, 0, 0, 1, false), 0);
    }

    // Promise 26: "whether it is any": none is DENIED.
    private static void copyOfNone() {
        ReviveKernel x = Scene.row(3);
        x.lend(1, ANY, 0, 16, BOTH);
        x.revoke(1);
        Scene.letRun(x, 1);
        x.pass(2, ANY, 0, 0);
        x.pass(3, ANY, 0, 1);
        Due.refused("never lent", x, () -> x.copy(0, 0, 0, 0, 1, false), DENIED);
        Due.refused("revoked", x, () -> x.copy(0, 1, 0, 0, 1, false), DENIED);
        Scene.letRun(x, 2);
        Due.refused("passed, never lent", x, () -> x.copy(1, 2, 0, 0, 1, false), DENIED);
        Due.refused("passed, revoked", x, () -> x.copy(1, 3, 0, 0, 1, false), DENIED);
    }

    // Promise 25: "6: words copied", of copies that were made.
    private static void refusedCopyCountsNothing() {
        ReviveKernel x = filled(2);
        x.lend(0, 1, 0, 8, READ);
        Scene.letRun(x, 1);
        x.copy(0, 0, 0, 0, 9, false);
        x.copy(0, 0, 0, 0, 1, true);
        x.copy(0, 1, 0, 0, 1, false);
        x.copy(7, 0, 0, 0, 1, false);
        x.copy(0, 0, 0, 0, 17, false);
        Due.due("none yet", x.total(6), 0);
        x.copy(0, 0, 0, 0, 8, false);
        x.copy(0, 0, 7, 15, 1, false);
        Due.due("eight and one", x.total(6), 9);
    }

    /** Slot s passes grant 0 of slot s - 1; slot 0 lends; the last slot of them copies. */
    private static ReviveKernel chainOf(int grants) {
        ReviveKernel x = filled(grants + 1);
        x.lend(0, ANY, 3, 5, BOTH);
        for (int slot = 1; slot <= grants; slot++) {
            Scene.letRun(x, slot);
            if (slot < grants) {
                x.pass(0, ANY, slot - 1, 0);
            }
        }
        return x;
    }

    // Promise 13: "at most four grants in all"
    private static void chainsOfEachLength() {
        for (int grants = 1; grants <= 9; grants++) {
            ReviveKernel x = chainOf(grants);
            int last = grants - 1;
            if (grants <= 4) {
                Due.due("read along " + grants, x.copy(last, 0, 4, 15, 1, false), 0);
                Due.due("the word", x.memory(grants, 15), 8);
                Due.due("write along " + grants, x.copy(last, 0, 0, 14, 1, true), 0);
                Due.due("written", x.memory(0, 3), 100 * grants + 15);
            } else {
                Due.refused("read along " + grants, x, () -> x.copy(last, 0, 0, 0, 1, false), DENIED);
                Due.refused("write along " + grants, x, () -> x.copy(last, 0, 0, 0, 1, true), DENIED);
                Due.due("four of them", x.copy(3, 0, 0, 0, 1, false), 0);
            }
        }
    }

    // Promise 26: "when a fourth grant on the way is PASSED, that is DENIED, whether its granter is there or not"
    private static void aFourthThatIsPassed() {
        ReviveKernel x = chainOf(5);
        Due.refused("its granter is there", x, () -> x.copy(4, 0, 0, 0, 1, false), DENIED);
        x.end(0);
        Due.refused("its granter ended", x, () -> x.copy(4, 0, 0, 0, 1, false), DENIED);
        x.end(1);
        Due.refused("the fourth one itself ended", x, () -> x.copy(4, 0, 0, 0, 1, false), STALE);
    }

    private static void circles() {
        ReviveKernel x = Scene.row(3);
        x.pass(0, ANY, 1, 0);
        Scene.letRun(x, 1);
        x.pass(0, ANY, 0, 0);
        Scene.letRun(x, 2);
        Due.refused("two that pass to each other", x, () -> x.copy(0, 0, 0, 0, 1, false), DENIED);
        Due.refused("two that pass to each other", x, () -> x.copy(1, 0, 0, 0, 1, true), DENIED);
    }

    // Promise 13: "STALE if a granter on the way is there no more", each of the four.
    private static void aGranterOnTheWayEnded() {
        for (int ended = 0; ended < 4; ended++) {
            ReviveKernel x = chainOf(4);
            x.end(ended);
            Due.refused("slot " + ended + " ended", x, () -> x.copy(3, 0, 0, 0, 1, false), STALE);
            x.birth(1, 1023);
            Due.refused("another one is there", x, () -> x.copy(3, 0, 0, 0, 1, false), STALE);
            Due.refused("so for writing", x, () -> x.copy(3, 0, 0, 0, 1, true), STALE);
        }
    }

    // Promise 13: "PASSED: granter's grant there is to granter or ANY, and so on"
    private static void toGranterOnTheWay() {
        for (int link = 0; link < 3; link++) {
            for (int to : new int[] {ANY, link + 1, 3, 4}) {
                ReviveKernel x = filled(5);
                x.lend(0, link == 0 ? to : 1, 0, 4, READ);
                for (int slot = 1; slot < 4; slot++) {
                    Scene.letRun(x, slot);
                    x.pass(0, link == slot ? to : slot + 1, slot - 1, 0);
                }
                Scene.letRun(x, 4);
                boolean fine = to == ANY || to == link + 1;
                String what = "grant of " + link + " is to " + to;
                if (fine) {
                    Due.due(what, x.copy(3, 0, 0, 0, 1, false), 0);
                } else {
                    Due.refused(what, x, () -> x.copy(3, 0, 0, 0, 1, false), DENIED);
                }
            }
        }
    }

    // Promise 26: "Each grant on the way is looked at in turn: first whether its granter is there (STALE), then
    // whether it is any and to whom it is (DENIED)"
    private static void eachGrantInTurn() {
        ReviveKernel x = Scene.row(4);
        x.lend(0, 1, 0, 16, BOTH);
        Scene.letRun(x, 1);
        x.pass(0, 3, 0, 0);
        x.pass(1, 2, 0, 0);
        x.pass(2, ANY, 0, 1);
        Scene.letRun(x, 2);
        x.pass(0, 3, 1, 0);
        x.pass(1, ANY, 1, 3);
        Scene.letRun(x, 3);
        x.end(0);
        Due.refused("to it, then STALE", x, () -> x.copy(1, 0, 0, 0, 1, false), STALE);
        Due.refused("not to it, before the next is looked at", x, () -> x.copy(1, 1, 0, 0, 1, false), DENIED);
        Due.refused("none behind a granter that ended", x, () -> x.copy(1, 2, 0, 0, 1, false), STALE);
        Due.refused("the second is not to 2, before the third", x, () -> x.copy(2, 0, 0, 0, 1, false), DENIED);
        Due.refused("the second is none", x, () -> x.copy(2, 1, 0, 0, 1, false), DENIED);
        x.end(1);
        Due.refused("the second's granter ended", x, () -> x.copy(2, 0, 0, 0, 1, false), STALE);
        Due.refused("the first's granter ended", x, () -> x.copy(1, 1, 0, 0, 1, false), STALE);
    }

    // Promise 26: "offset and right last"
    private static void offsetAndRightLast() {
        ReviveKernel x = chainOf(3);
        Due.refused("the offset, all granters there", x, () -> x.copy(2, 0, 5, 0, 1, false), DENIED);
        x.end(0);
        Due.refused("STALE before a wrong offset", x, () -> x.copy(2, 0, -1, 0, 1, false), STALE);
        Due.refused("STALE before a great offset", x, () -> x.copy(2, 0, 99, 0, 16, false), STALE);
        ReviveKernel y = Scene.row(3);
        y.lend(0, 1, 0, 4, READ);
        Scene.letRun(y, 1);
        y.pass(0, 2, 0, 0);
        Scene.letRun(y, 2);
        y.end(0);
        Due.refused("STALE before a right that was not given", y, () -> y.copy(1, 0, 0, 0, 1, true), STALE);
    }

    // "and the last one LENT, offset .. its length, with the right": a passed grant has no part of its own.
    private static void theLastOneCounts() {
        ReviveKernel x = filled(3);
        x.lend(0, ANY, 10, 6, READ);
        Scene.letRun(x, 1);
        x.lend(0, ANY, 0, 2, WRITE);
        x.pass(0, ANY, 0, 0);
        Scene.letRun(x, 2);
        Due.due("the part of the last one", x.copy(1, 0, 0, 0, 6, false), 0);
        Due.due("its words", x.memory(2, 5), 16);
        Due.refused("the right of the last one", x, () -> x.copy(1, 0, 0, 0, 1, true), DENIED);
        Due.refused("the length of the last one", x, () -> x.copy(1, 0, 1, 0, 6, false), DENIED);
    }

    // Promise 13: "(all read before any is written)": a chain may lead to RUNNING's own memory.
    private static void allReadBeforeAnyIsWritten() {
        for (int at = 0; at <= 8; at++) {
            for (int write = 0; write < 2; write++) {
                ReviveKernel x = filled(2);
                x.lend(0, 1, 2, 12, BOTH);
                x.receive(1, true);
                x.pass(1, 0, 0, 0);
                x.note(0);
                x.receive(0, true);
                Due.due("0 runs", x.running(), 0);
                Due.due("own words at " + at, x.copy(1, 1, 2, at, 8, write == 1), 0);
                int from = write == 1 ? at : 4;
                int to = write == 1 ? 4 : at;
                for (int a = 0; a < 16; a++) {
                    boolean copied = a >= to && a < to + 8;
                    Due.due("word " + a + ", at " + at, x.memory(0, a), copied ? from + a - to + 1 : a + 1);
                }
                Due.due("the one between has its own", x.memory(1, 4), 105);
            }
        }
    }
}
