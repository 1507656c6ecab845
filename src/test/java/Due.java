/** Compares answers with the ones that are due, and ends the program accordingly. */
final class Due {
    private static int wrong = 0;
    private static int compared = 0;
    private static String about = "";

    private Due() {
    }

    /** What the comparisons from here on are for; told once, before the first wrong answer. */
    static void about(String what) {
        about = what;
    }

    static int compared() {
        return compared;
    }

    static void is(String call, int got, int want) {
        compared++;
        if (got != want) {
            wrong++;
            if (!about.isEmpty()) {
                System.out.println(about + ":");
                about = "";
            }
            System.out.println(call + " answered " + got + ", due is " + want);
        }
    }

    /** The whole chain of a method or event, the target too, with what stands beyond its ends. */
    static void chainIs(String what, BoundChains x, int component, int m, int... want) {
        is(what + ": length", x.length(component, m), want.length);
        for (int k = 0; k < want.length; k++) {
            is(what + ": element " + k, x.element(component, m, k), want[k]);
        }
        is(what + ": before the first", x.element(component, m, -1), BoundChains.NOTHING);
        is(what + ": behind the last", x.element(component, m, want.length), BoundChains.NOTHING);
    }

    /** The whole log, with what stands beyond its ends. */
    static void logIs(String what, BoundChains x, int... want) {
        for (int k = 0; k < want.length; k++) {
            is(what + ": log " + k, x.log(k), want[k]);
        }
        is(what + ": log before the first", x.log(-1), BoundChains.NOTHING);
        is(what + ": log behind the last", x.log(want.length), BoundChains.NOTHING);
    }

    static void ended(String what, BoundChains x, int result, int error) {
        is(what + ": result", x.result(), result);
        is(what + ": error", x.error(), error);
    }

    static void end() {
        System.out.println(compared + " answers compared, " + wrong + " wrong");
        if (wrong != 0 || compared == 0) {
            System.exit(1);
        }
    }
}
