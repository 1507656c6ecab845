/** Promises 15 to 18: invocations and events, what they return or throw, and their log. */
final class InvokeTest {
    private static final int NOTHING = BoundChains.NOTHING;
    private static final int OPEN = BoundChains.OPEN;

    public static void main(String[] args) {
        codes();
        refusedChangesNothing();
        targets();
        interceptorBehaviours();
        decoratorBehaviours();
        errorsOfElements();
        sharedArgument();
        ownArguments();
        sharedThenOwn();
        errorEndsBothProceedings();
        caughtErrors();
        catchesOnlyOnce();
        fullLog();
        fullLogIsNotCaught();
        exactlyFullLog();
        events();
        wrapping();
        Due.end();
    }

    /** A component with a method list of the interceptors with these behaviours, not deployed. */
    private static BoundChains listed(int m, int... behaviours) {
        BoundChains x = new BoundChains();
        x.component(1);
        for (int behaviour : behaviours) {
            x.list(0, m, x.interceptor(0, 15, behaviour));
        }
        return x;
    }

    private static BoundChains decorated(int... behaviours) {
        BoundChains x = new BoundChains();
        x.component(1);
        for (int behaviour : behaviours) {
            x.decorator(1, 0, 15, behaviour);
        }
        return x;
    }

    private static void run(String what, BoundChains x, int m, int argument, int logged,
            int result, int error) {
        Due.is(what + ": invoke", x.invoke(0, m, argument), logged);
        Due.ended(what, x, result, error);
        Due.is(what + ": log behind the last", x.log(logged), NOTHING);
    }

    private static void codes() {
        BoundChains x = listed(0);
        Due.is("open", x.invoke(0, 0, 0), OPEN);
        Due.is("nothing, open", x.invoke(7, 7, 0), OPEN);
        x.deploy();
        for (int wrong : new int[] {-1, 1, 4, Integer.MAX_VALUE, Integer.MIN_VALUE}) {
            Due.is("component " + wrong, x.invoke(wrong, 0, 0), NOTHING);
        }
        for (int wrong : new int[] {-1, 7, 8, Integer.MAX_VALUE, Integer.MIN_VALUE}) {
            Due.is("method " + wrong, x.invoke(0, wrong, 0), NOTHING);
        }
        Due.logIs("none yet", x);
        Due.ended("none yet", x, 0, 0);
    }

    private static void refusedChangesNothing() {
        BoundChains x = listed(0, 0);
        x.flags(0, 1, 4);
        x.deploy();
        x.invoke(0, 0, 5);
        Due.is("refused", x.invoke(1, 0, 0), NOTHING);
        Due.is("refused again", x.invoke(0, 7, 0), NOTHING);
        Due.logIs("kept", x, 0, 32);
        Due.ended("kept", x, 15, 0);
        Due.is("closed", x.deploy(), BoundChains.CLOSED);
        x.length(0, 1);
        x.element(0, 1, 0);
        Due.logIs("kept by what only reads", x, 0, 32);
        x.invoke(0, 1, 5);
        Due.is("refused after an error", x.invoke(1, 0, 0), NOTHING);
        Due.logIs("kept after an error", x, 32);
        Due.ended("kept after an error", x, 0, 34);
        x.invoke(0, 0, 6);
        Due.logIs("a log of the latest alone", x, 0, 32);
        Due.ended("the latest", x, 18, 0);
        for (int far : new int[] {Integer.MAX_VALUE, Integer.MIN_VALUE, 64}) {
            Due.is("log " + far, x.log(far), NOTHING);
        }
    }

    private static void targets() {
        BoundChains x = listed(0);
        x.component(0);
        for (int m = 0; m < 4; m++) {
            x.flags(1, m, 4);
        }
        x.deploy();
        for (int m = 0; m < 4; m++) {
            run("target " + m, x, m, 10, 1, 30 + m, 0);
            run("target " + m + " with -1", x, m, -1, 1, m - 3, 0);
            Due.is("failing " + m, x.invoke(1, m, 10), 1);
            Due.ended("failing " + m, x, 0, 33 + m);
            Due.logIs("failing " + m, x, 32);
        }
    }

    private static void interceptorBehaviours() {
        int[] results = {16, 32, 5, 38, 0, 16};
        int[] errors = {0, 0, 0, 0, 1, 0};
        int[] entries = {2, 3, 1, 2, 1, 2};
        int[] failingResults = {0, 0, 5, 0, 0, -34};
        int[] failingErrors = {34, 34, 0, 34, 1, 0};
        int[] failingEntries = {2, 2, 1, 2, 1, 2};
        for (int behaviour = 0; behaviour < 6; behaviour++) {
            BoundChains x = listed(1, behaviour);
            x.deploy();
            run("interceptor with " + behaviour, x, 1, 5, entries[behaviour],
                results[behaviour], errors[behaviour]);
            BoundChains y = listed(1, behaviour);
            y.flags(0, 1, 4);
            y.deploy();
            run("interceptor with " + behaviour + ", failing", y, 1, 5, failingEntries[behaviour],
                failingResults[behaviour], failingErrors[behaviour]);
        }
    }

    private static void decoratorBehaviours() {
        int[] results = {16, 32, 5, 38, 0, 16};
        int[] errors = {0, 0, 0, 0, 17, 0};
        int[] entries = {2, 3, 1, 2, 1, 2};
        int[] failingResults = {0, 0, 5, 0, 0, -34};
        int[] failingErrors = {34, 34, 0, 34, 17, 0};
        int[] failingEntries = {2, 2, 1, 2, 1, 2};
        for (int behaviour = 0; behaviour < 6; behaviour++) {
            BoundChains x = decorated(behaviour);
            x.deploy();
            run("decorator with " + behaviour, x, 1, 5, entries[behaviour],
                results[behaviour], errors[behaviour]);
            BoundChains y = decorated(behaviour);
            y.flags(0, 1, 4);
            y.deploy();
            run("decorator with " + behaviour + ", failing", y, 1, 5, failingEntries[behaviour],
                failingResults[behaviour], failingErrors[behaviour]);
        }
    }

    private static void errorsOfElements() {
        for (int i = 0; i < 8; i++) {
            BoundChains x = new BoundChains();
            x.component(0);
            for (int k = 0; k < 8; k++) {
                x.interceptor(0, 15, 4);
            }
            x.list(0, -1, i);
            x.deploy();
            run("interceptor " + i, x, 0, 5, 1, 0, 1 + i);
            run("interceptor " + i + " in an event", x, 5, 5, 1, 0, 1 + i);
        }
        for (int d = 0; d < 4; d++) {
            BoundChains x = new BoundChains();
            x.component(1);
            for (int k = 0; k < 4; k++) {
                x.decorator(k == d ? 1 : 0, 0, 15, 4);
            }
            x.deploy();
            run("decorator " + d, x, 0, 5, 1, 0, 17 + d);
        }
    }

    /** What grew for one interceptor has grown for all, also when the chain is gone through again. */
    private static void sharedArgument() {
        BoundChains x = listed(0, 1, 3);
        x.deploy();
        run("grows twice", x, 0, 10, 5, 2 * 33 + 2 * 36, 0);
        Due.logIs("grows twice", x, 0, 1, 32, 1, 32);
        run("begins anew", x, 0, 10, 5, 2 * 33 + 2 * 36, 0);
        BoundChains y = listed(0, 3, 3, 2);
        y.deploy();
        run("returns the shared one", y, 0, 10, 3, 4 * 12, 0);
        BoundChains z = listed(0, 1, 3, 2);
        z.deploy();
        run("returns the shared one twice", z, 0, 10, 5, 2 * 11 + 2 * 12, 0);
    }

    private static void ownArguments() {
        BoundChains x = decorated(1, 3);
        x.deploy();
        run("does not keep what grew", x, 0, 10, 5, 4 * 33, 0);
        Due.logIs("does not keep what grew", x, 16, 17, 32, 17, 32);
        BoundChains y = decorated(3, 1, 3, 2);
        y.deploy();
        run("hands on what grew", y, 0, 10, 6, 2 * (2 * 12 + 2 * 12), 0);
        BoundChains z = decorated(3, 0, 5);
        z.deploy();
        run("hands on through others", z, 2, 10, 4, 2 * 35, 0);
    }

    private static void sharedThenOwn() {
        BoundChains x = listed(0, 1, 3);
        x.decorator(1, 0, 15, 3);
        x.deploy();
        run("shared grows, own begins there", x, 0, 10, 7, 4 * 36 + 4 * 39, 0);
        Due.logIs("shared grows, own begins there", x, 0, 1, 16, 32, 1, 16, 32);
        BoundChains y = listed(0, 3);
        y.decorator(1, 0, 15, 2);
        y.deploy();
        run("own is what was shared then", y, 0, 10, 2, 22, 0);
    }

    private static void errorEndsBothProceedings() {
        BoundChains x = listed(0, 1, 1, 3, 4);
        x.deploy();
        run("no second time", x, 0, 10, 4, 0, 4);
        Due.logIs("no second time", x, 0, 1, 2, 3);
        BoundChains y = decorated(1, 3, 4);
        y.deploy();
        run("no second time for decorators", y, 0, 10, 3, 0, 19);
    }

    private static void caughtErrors() {
        BoundChains x = listed(0, 1, 5, 3, 4);
        x.deploy();
        run("caught twice", x, 0, 10, 7, -8, 0);
        Due.logIs("caught twice", x, 0, 1, 2, 3, 1, 2, 3);
        BoundChains y = decorated(3, 5, 4);
        y.deploy();
        run("caught by a decorator", y, 0, 10, 3, 2 * -19, 0);
        BoundChains z = listed(0, 3, 5, 2);
        z.deploy();
        run("nothing to catch", z, 0, 10, 3, 22, 0);
    }

    private static void catchesOnlyOnce() {
        BoundChains x = listed(0, 5, 5, 4);
        x.deploy();
        run("the inner one catches", x, 0, 10, 3, -3, 0);
        BoundChains y = listed(0, 5, 4, 5);
        y.deploy();
        run("an outer one catches", y, 0, 10, 2, -2, 0);
        BoundChains z = listed(0, 4, 5);
        z.deploy();
        run("none before it catches", z, 0, 10, 1, 0, 1);
    }

    /** Six times doubled: 1 + 2 + .. + 64 entries, too many. */
    private static BoundChains sixDoubling(boolean catching) {
        BoundChains x = new BoundChains();
        x.component(0);
        x.interceptor(0, 15, 1);
        x.interceptor(0, 15, 5);
        if (catching) {
            x.list(0, -1, 1);
        }
        for (int k = 0; k < 3; k++) {
            x.list(0, -1, 0);
            x.list(0, 0, 0);
        }
        if (catching) {
            x.list(0, 0, 1);
        }
        return x;
    }

    private static void fullLog() {
        BoundChains x = sixDoubling(false);
        x.deploy();
        run("too many", x, 0, 1, 64, 0, 99);
        Due.is("log 0", x.log(0), 0);
        Due.is("log 6", x.log(6), 32);
        Due.is("log 63", x.log(63), 32);
        Due.is("log 64", x.log(64), NOTHING);
        run("fewer again", x, 1, 1, 15, 32, 0);
    }

    private static void fullLogIsNotCaught() {
        BoundChains x = sixDoubling(true);
        x.deploy();
        run("not caught", x, 0, 1, 64, 0, 99);
        Due.is("log 0", x.log(0), 1);
        Due.is("log 7", x.log(7), 1);
        Due.is("log 8", x.log(8), 32);
    }

    /** 1 + 2 + .. + 32 = 63 entries behind a first one: 64, which is not too many. */
    private static void exactlyFullLog() {
        BoundChains x = new BoundChains();
        x.component(1);
        x.interceptor(0, 15, 0);
        x.interceptor(0, 15, 1);
        x.list(0, -1, 0);
        x.list(0, -1, 1);
        x.list(0, -1, 1);
        x.list(0, -1, 1);
        x.list(0, 0, 1);
        x.list(0, 0, 1);
        x.deploy();
        run("just enough", x, 0, 1, 64, 96, 0);
        Due.is("log 0", x.log(0), 0);
        Due.is("log 1", x.log(1), 1);
        Due.is("log 63", x.log(63), 32);
    }

    private static void events() {
        int[] results = {7, 14, 0, 0, 0, 7};
        int[] errors = {0, 0, 0, 50, 1, 0};
        int[] entries = {2, 3, 1, 1, 1, 2};
        for (int behaviour = 0; behaviour < 6; behaviour++) {
            BoundChains x = listed(-1, behaviour);
            x.decorator(1, 0, 15, 4);
            for (int m = 0; m < 4; m++) {
                x.flags(0, m, 6);
            }
            x.deploy();
            for (int m = 4; m < 7; m++) {
                run("event with " + behaviour, x, m, 9, entries[behaviour],
                    results[behaviour], errors[behaviour]);
            }
        }
        BoundChains y = listed(-1, 1, 5, 3);
        y.deploy();
        run("caught in an event", y, 4, 9, 5, -100, 0);
        Due.logIs("caught in an event", y, 0, 1, 2, 1, 2);
    }

    private static void wrapping() {
        BoundChains x = listed(0, 3);
        x.deploy();
        run("growing wraps", x, 0, Integer.MAX_VALUE, 2, 2 * (3 * Integer.MIN_VALUE), 0);
        run("a product wraps", x, 0, 1 << 29, 2, 2 * (3 * ((1 << 29) + 1)), 0);
        BoundChains y = decorated(3, 2);
        y.deploy();
        run("own growing wraps", y, 0, Integer.MAX_VALUE, 2, 0, 0);
        BoundChains z = listed(3, 1);
        z.deploy();
        run("a sum wraps", z, 3, 500000000, 3, -1294967290, 0);
        run("an int of zero", z, 3, -1, 3, 0, 0);
    }
}
