/** What the tests of the edges share: objects in a known state, and all that can be seen of one. */
final class Scene {
    static final int ANY = -1;
    static final int READY = 1, SENDING = 2, RECEIVING = 3, AWAITING = 4;
    /** Numbers that are far from all that the document allows. */
    static final int LEAST = Integer.MIN_VALUE, MOST = Integer.MAX_VALUE;

    private Scene() {
    }

    /** Processes of these bases in slots 0, 1, .., each of which may send to all slots. */
    static ReviveKernel of(int... bases) {
        ReviveKernel x = new ReviveKernel();
        for (int base : bases) {
            x.birth(base, 1023);
        }
        return x;
    }

    /** Processes in slots 0 .. n - 1, in this order in row 1. */
    static ReviveKernel row(int n) {
        ReviveKernel x = new ReviveKernel();
        for (int i = 0; i < n; i++) {
            x.birth(1, 1023);
        }
        return x;
    }

    /** Those that run before the one in this slot receive from ANY till it runs. */
    static void letRun(ReviveKernel x, int slot) {
        for (int i = 0; i < 10 && x.running() != x.at(slot, 0); i++) {
            Due.due("another one waits, for slot " + slot + " to run", x.receive(ANY, true), ReviveKernel.BLOCKED);
        }
        Due.due("slot " + slot + " runs", x.running(), x.at(slot, 0));
    }

    /** Word a of slot s is 100 s + a + 1. */
    static void fillMemory(ReviveKernel x) {
        for (int slot = 0; slot < 10; slot++) {
            for (int a = 0; a < 16; a++) {
                x.poke(slot, a, 100 * slot + a + 1);
            }
        }
    }

    /** All that can be seen of an object. */
    static String look(ReviveKernel x) {
        StringBuilder text = new StringBuilder("running " + x.running());
        for (int slot = 0; slot < 10; slot++) {
            text.append("; slot ").append(slot).append(':');
            for (int what = 0; what < 15; what++) {
                text.append(' ').append(x.at(slot, what));
            }
            text.append(" memory");
            for (int a = 0; a < 16; a++) {
                text.append(' ').append(x.memory(slot, a));
            }
        }
        for (int k = 0; k < 3; k++) {
            text.append("; service ").append(k).append(':');
            for (int what = 0; what < 4; what++) {
                text.append(' ').append(x.service(k, what));
            }
        }
        text.append("; totals");
        for (int what = 0; what < 7; what++) {
            text.append(' ').append(x.total(what));
        }
        return text.toString();
    }
}
