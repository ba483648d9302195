/** Promises 8 and 9: note, post. */
public final class NotesAndLettersTest {
    private static final int BAD = ReviveKernel.BAD, STALE = ReviveKernel.STALE, DENIED = ReviveKernel.DENIED;
    private static final int FULL = ReviveKernel.FULL, NOTHING = ReviveKernel.NOTHING;
    private static final int ANY = -1;

    public static void main(String[] args) {
        refusals();
        notes();
        notesThatAreTaken();
        letters();
        lettersThatAreTaken();
        fullBoxes();
        orderOfLetters();
        Due.close("NotesAndLettersTest");
    }

    private static void refusals() {
        ReviveKernel x = new ReviveKernel();
        Due.due("note of nobody", x.note(0), BAD);
        Due.due("post of nobody", x.post(0, 1), BAD);
        x.birth(0, 0b101);
        x.birth(1, 0);
        x.birth(1, 0);
        for (int to : new int[] {-1, -2, 3, 10, 16, 18, Integer.MIN_VALUE}) {
            Due.due("note to " + to, x.note(to), STALE);
            Due.due("post to " + to, x.post(to, 1), STALE);
        }
        Due.due("note to itself", x.note(0), BAD);
        Due.due("post to itself", x.post(0, 1), BAD);
        Due.due("note outside the mask", x.note(1), DENIED);
        Due.due("post outside the mask", x.post(1, 1), DENIED);
        x.post(2, 1);
        x.post(2, 1);
        x.post(2, 1);
        Due.due("STALE before FULL", x.post(3, 1), STALE);
        Due.due("BAD before FULL", x.post(0, 1), BAD);
        Due.due("DENIED before FULL", x.post(1, 1), DENIED);
        Due.due("FULL", x.post(2, 1), FULL);
        Due.due("a note is never full", x.note(2), 0);
    }

    private static void notes() {
        ReviveKernel x = new ReviveKernel();
        x.birth(0, 1023);
        x.birth(1, 1023);
        Due.due("note", x.note(1), 0);
        Due.due("note again", x.note(1), 0);
        Due.due("one of a source", x.at(1, 6), 1);
        Due.due("not got yet", x.total(3), 0);
        x.receive(1, true);
        Due.due("got", x.receive(ANY, true), 1);
        Due.due("only once", x.receive(ANY, false), NOTHING);
        Due.due("notes got", x.total(3), 1);
        Due.due("source", x.at(1, 10), 0);
        Due.due("value", x.at(1, 12), 0);
        x.note(0);
        Due.due("the woken one runs", x.running(), 0);
        x.note(1);
        Due.due("a new one after the old was got", x.at(1, 6), 1);
    }

    private static void notesThatAreTaken() {
        ReviveKernel x = new ReviveKernel();
        for (int slot = 0; slot < 4; slot++) {
            x.birth(1, 1023);
        }
        x.receive(ANY, true);
        x.receive(3, true);
        x.receive(0, true);
        Due.due("to one that receives from any", x.note(0), 0);
        Due.due("to one that receives from it", x.note(1), 0);
        Due.due("to one that receives from another", x.note(2), 0);
        Due.due("0 is ready", x.at(0, 1), 1);
        Due.due("1 is ready", x.at(1, 1), 1);
        Due.due("2 is not", x.at(2, 1), 3);
        Due.due("0 got it", x.at(0, 11), 1);
        Due.due("0 has none left", x.at(0, 6), 0);
        Due.due("2 has it", x.at(2, 6), 1);
        Due.due("notes got", x.total(3), 2);
        Due.due("still running", x.running(), 3);
        x.send(0, 1);
        x.note(3);
        Due.due("a note to one that sends", x.at(3, 6), 1);
        Due.due("sends on", x.at(3, 1), 2);
    }

    private static void letters() {
        ReviveKernel x = new ReviveKernel();
        x.birth(0, 1023);
        x.birth(1, 1023);
        Due.due("post", x.post(1, 8), 0);
        Due.due("post", x.post(1, 9), 0);
        Due.due("letters of 1", x.at(1, 7), 2);
        Due.due("letters by 0", x.at(0, 8), 2);
        Due.due("not got", x.total(4), 0);
        x.receive(1, true);
        Due.due("got", x.receive(0, true), 2);
        Due.due("first value", x.at(1, 12), 8);
        Due.due("source", x.at(1, 10), 0);
        Due.due("sort", x.at(1, 11), 2);
        Due.due("got", x.receive(ANY, true), 2);
        Due.due("second value", x.at(1, 12), 9);
        Due.due("letters got", x.total(4), 2);
        Due.due("letters by 0", x.at(0, 8), 0);
    }

    private static void lettersThatAreTaken() {
        ReviveKernel x = new ReviveKernel();
        for (int slot = 0; slot < 4; slot++) {
            x.birth(1, 1023);
        }
        x.receive(ANY, true);
        x.receive(3, true);
        x.receive(0, true);
        Due.due("to one that receives from any", x.post(0, 5), 0);
        Due.due("to one that receives from it", x.post(1, 6), 0);
        Due.due("to one that receives from another", x.post(2, 7), 0);
        Due.due("0 is ready", x.at(0, 1), 1);
        Due.due("0 got it", x.at(0, 12), 5);
        Due.due("1 got it", x.at(1, 12), 6);
        Due.due("2 has it", x.at(2, 7), 1);
        Due.due("2 waits", x.at(2, 1), 3);
        Due.due("not got", x.at(3, 8), 1);
        Due.due("letters got", x.total(4), 2);
    }

    private static void fullBoxes() {
        ReviveKernel x = new ReviveKernel();
        x.birth(1, 1023);
        x.birth(1, 1023);
        x.birth(1, 1023);
        x.receive(ANY, true);
        x.post(2, 1);
        Due.due("1 posts to 2", x.post(2, 2), 0);
        Due.due("one to 0 is got at once", x.post(0, 3), 0);
        Due.due("third", x.post(0, 4), 0);
        Due.due("of all receivers together", x.post(2, 5), FULL);
        Due.due("running", x.running(), 1);
        x.receive(0, true);
        x.receive(0, true);
        Due.due("0 got one", x.receive(ANY, false), 2);
        x.note(1);
        x.receive(1, true);
        Due.due("1 runs", x.running(), 1);
        Due.due("one more goes", x.post(2, 6), 0);
        Due.due("and then no more", x.post(2, 7), FULL);

        ReviveKernel y = new ReviveKernel();
        y.birth(0, 1023);
        y.birth(1, 1023);
        y.birth(2, 1023);
        y.post(2, 1);
        y.post(2, 2);
        y.post(2, 3);
        y.receive(1, true);
        y.receive(ANY, true);
        y.note(0);
        y.note(1);
        y.end(1);
        y.birth(3, 1023);
        y.end(0);
        Due.due("letters of the ended one are gone", y.at(2, 7), 0);
        y.birth(0, 1023);
        Due.due("the next one begins with none", y.post(2, 1), 0);
        y.post(2, 1);
        y.post(2, 1);
        y.receive(ANY, true);
        Due.due("2 waits for 1", y.receive(17, true), ReviveKernel.BLOCKED);
        y.note(16);
        Due.due("FULL is looked at before whether it takes", y.post(17, 1), FULL);
    }

    private static void orderOfLetters() {
        ReviveKernel x = new ReviveKernel();
        x.birth(1, 1023);
        x.birth(1, 1023);
        x.birth(3, 1023);
        x.post(2, 1);
        x.receive(1, true);
        x.post(2, 2);
        x.note(0);
        x.receive(0, true);
        x.post(2, 3);
        x.note(1);
        x.receive(1, true);
        x.post(2, 4);
        x.receive(2, true);
        Due.due("2 runs", x.running(), 2);
        Due.due("letters", x.at(2, 7), 4);
        x.receive(1, false);
        Due.due("first of 1", x.at(2, 12), 2);
        int[] values = {1, 3, 4};
        for (int value : values) {
            Due.due("a letter", x.receive(ANY, false), 2);
            Due.due("in the order of posting", x.at(2, 12), value);
        }
        Due.due("no more", x.receive(ANY, false), NOTHING);
    }
}
