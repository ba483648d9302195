import java.util.function.BooleanSupplier;
import java.util.function.IntSupplier;

/** What the tests share: compares answers with those that are due and tells the wrong ones. */
final class Due {
    private static int wrong = 0;
    private static int asked = 0;

    private Due() {
    }

    static void due(String call, long got, long want) {
        asked++;
        if (got != want) {
            wrong++;
            System.out.println(call + " answered " + got + ", due is " + want);
        }
    }

    static void due(String call, boolean got, boolean want) {
        due(call, got ? 1L : 0L, want ? 1L : 0L);
    }

    /** A call that is refused answers so, and all that can be seen stays as it was. */
    static void refused(String call, ReviveKernel x, IntSupplier made, int want) {
        String before = Scene.look(x);
        due(call, made.getAsInt(), want);
        same(call, before, Scene.look(x));
    }

    static void refused(String call, ReviveKernel x, BooleanSupplier made) {
        String before = Scene.look(x);
        due(call, made.getAsBoolean(), false);
        same(call, before, Scene.look(x));
    }

    private static void same(String call, String before, String after) {
        asked++;
        if (!before.equals(after)) {
            wrong++;
            System.out.println(call + " was refused but changed\n  " + before + "\n  " + after);
        }
    }

    /** Ends the test with exit code 1 if an answer was wrong. */
    static void close(String name) {
        System.out.println(name + ": " + asked + " answers, " + wrong + " wrong");
        if (wrong != 0 || asked == 0) {
            System.exit(1);
        }
    }
}
