/** The sentences on invocations and events, what they end by, and their log. */
final class InvokeSentencesTest {
    private static final int NOTHING = BoundChains.NOTHING;
    private static final int OPEN = BoundChains.OPEN;
    private static final int LEAST = Integer.MIN_VALUE;
    private static final int MOST = Integer.MAX_VALUE;
    /** The greatest int that can be multiplied by 3 without wrapping. */
    private static final int THIRD = 715827882;

    public static void main(String[] args) {
        Sentences.test(InvokeSentencesTest.class);
    }

    /** A component whose list for itself or a method has interceptors with these behaviours. */
    private static BoundChains listed(int m, int... behaviours) {
        BoundChains x = new BoundChains();
        x.component(1);
        for (int behaviour : behaviours) {
            x.list(0, m, x.interceptor(0, 15, behaviour));
        }
        return x;
    }

    /** As many bound interceptors, 0 the first, with these behaviours, at most eight. */
    private static BoundChains bound(int... behaviours) {
        BoundChains x = new BoundChains();
        x.component(1);
        x.binding(true);
        x.bind(0, -1, 0, 0);
        for (int behaviour : behaviours) {
            x.bindInterceptor(x.interceptor(1, 15, behaviour), 0, 0);
        }
        return x;
    }

    private static BoundChains decorate(BoundChains x, int... behaviours) {
        for (int behaviour : behaviours) {
            x.decorator(1, 0, 15, behaviour);
        }
        return x;
    }

    private static BoundChains decorated(int... behaviours) {
        return decorate(listed(0), behaviours);
    }

    private static BoundChains deployed(BoundChains x) {
        Due.is("deploy", x.deploy(), 0);
        return x;
    }

    private static BoundChains failing(BoundChains x) {
        for (int m = 0; m < 4; m++) {
            x.flags(0, m, 4);
        }
        return deployed(x);
    }

    private static void returns(String what, BoundChains x, int m, int argument, int due) {
        Due.is(what + ": invoked", x.invoke(0, m, argument) > 0 ? 1 : 0, 1);
        Due.ended(what, x, due, 0);
    }

    private static void throwsError(String what, BoundChains x, int m, int argument, int due) {
        Due.is(what + ": invoked", x.invoke(0, m, argument) > 0 ? 1 : 0, 1);
        Due.ended(what, x, 0, due);
    }

    @Says(under = "Terms", words = "AN INVOCATION of a method has an argument, an int, that all "
        + "interceptors of the chain share;")
    static void termsInvocationSharesItsArgument() {
        for (int argument : new int[] {LEAST, -1, 0, 1, MOST}) {
            BoundChains x = deployed(listed(0, 0, 5, 2));
            returns("as it was given", x, 0, argument, argument);
        }
        BoundChains y = deployed(listed(0, 3, 1, 3, 2));
        returns("what one grew is grown for all", y, 0, 10, 2 * (2 * 12 + 2 * 13));
        returns("each invocation has its own", y, 0, 10, 2 * (2 * 12 + 2 * 13));
    }

    @Says(under = "Terms", words = "each decorator, and the target, has an argument of its own, "
        + "which it is given when it is entered: by an interceptor, or at the beginning, what the "
        + "shared argument is then; by a decorator, what is said below.")
    static void termsInvocationOwnArgumentWhenEntered() {
        returns("the target at the beginning", deployed(listed(0)), 0, 10, 30);
        returns("a decorator at the beginning", deployed(decorated(2)), 0, 10, 10);
        returns("the target by an interceptor", deployed(listed(0, 3)), 0, 10, 2 * 33);
        BoundChains x = deployed(decorate(listed(0, 1, 3), 2));
        returns("a decorator by an interceptor, as it is then", x, 0, 10, 2 * 11 + 2 * 12);
        BoundChains y = deployed(decorate(listed(0, 1, 3), 1, 3));
        returns("a decorator does not grow what is shared", y, 0, 10,
            2 * (4 * 36) + 2 * (4 * 39));
        BoundChains z = deployed(decorate(listed(0, 1), 3, 2));
        returns("nor what it is given the next time", z, 0, 10, 2 * 11 + 2 * 11);
    }

    @Says(under = "Terms", words = "It begins with the first element of the chain being entered. "
        + "Whenever an element is ENTERED it is written into the LOG, which has at most 64 "
        + "entries;")
    static void termsLogOfAllThatIsEntered() {
        BoundChains x = deployed(listed(0));
        Due.is("the target alone", x.invoke(0, 0, 1), 1);
        Due.logIs("the target alone", x, 32);
        BoundChains y = deployed(decorate(listed(0, 1, 4), 0));
        Due.is("one that throws is entered", y.invoke(0, 0, 1), 2);
        Due.logIs("one that throws is entered", y, 0, 1);
        BoundChains z = deployed(decorate(listed(0, 1, 0), 1));
        Due.is("each time", z.invoke(0, 0, 1), 9);
        Due.logIs("each time", z, 0, 1, 16, 32, 32, 1, 16, 32, 32);
        BoundChains w = deployed(listed(-1, 3));
        Due.is("one that grows in an event is entered", w.invoke(0, 4, 1), 1);
        Due.logIs("one that grows in an event is entered", w, 0);
    }

    /** 1 + 1 + 2 + 4 + 8 + 16 + 32 entries: the last one that there is room for. */
    @Says(under = "Terms", words = "the LOG, which has at most 64 entries;")
    static void termsLogExactlyFullReturns() {
        BoundChains target = deployed(bound(0, 1, 1, 1, 1, 1));
        Due.is("the target is the last", target.invoke(0, 0, 1), 64);
        Due.ended("the target is the last", target, 32 * 3, 0);
        Due.is("the last entry", target.log(63), 32);
        Due.is("behind it", target.log(64), NOTHING);
        BoundChains stops = deployed(bound(0, 1, 1, 1, 1, 1, 2));
        Due.is("one that does not proceed is the last", stops.invoke(0, 0, 1), 64);
        Due.ended("one that does not proceed is the last", stops, 32, 0);
        Due.is("its last entry", stops.log(63), 6);
        BoundChains decorator = deployed(decorate(bound(0, 1, 1, 1), 1, 1, 2));
        Due.is("a decorator is the last", decorator.invoke(0, 0, 1), 64);
        Due.ended("a decorator is the last", decorator, 32, 0);
        Due.is("the decorator's entry", decorator.log(63), 18);
    }

    /** 1 + 1 + 2 + 4 + 8 entries and 16 times three: the last one throws, and is caught. */
    @Says(under = "Terms", words = "the LOG, which has at most 64 entries;")
    static void termsLogExactlyFullThrows() {
        BoundChains x = deployed(bound(0, 1, 1, 1, 1, 5, 0, 4));
        Due.is("caught", x.invoke(0, 0, 1), 64);
        Due.ended("caught", x, 16 * -8, 0);
        Due.is("the last entry", x.log(63), 7);
        BoundChains y = failing(bound(0, 1, 1, 1, 1, 5, 0));
        Due.is("a failing target, caught", y.invoke(0, 3, 1), 64);
        Due.ended("a failing target, caught", y, 16 * -36, 0);
        Due.is("the target's entry", y.log(63), 32);
    }

    @Says(under = "Terms",
        words = "when 64 are there, the invocation ends at once instead, and its error is 99.")
    static void termsLogSixtyFifthEndsTheInvocation() {
        BoundChains x = deployed(bound(0, 0, 1, 1, 1, 1, 1));
        Due.is("the target would be the next", x.invoke(0, 0, 1), 64);
        Due.ended("the target would be the next", x, 0, 99);
        Due.is("the last entry", x.log(63), 32);
        Due.is("behind it", x.log(64), NOTHING);
        BoundChains y = deployed(bound(0, 1, 1, 1, 1, 1, 1));
        Due.is("an interceptor would be the next", y.invoke(0, 0, 1), 64);
        Due.ended("an interceptor would be the next", y, 0, 99);
        BoundChains z = deployed(decorate(bound(0, 0, 1, 1, 1), 1, 1, 2));
        Due.is("a decorator would be the next", z.invoke(0, 0, 1), 64);
        Due.ended("a decorator would be the next", z, 0, 99);
        Due.is("the decorator before it", z.log(63), 18);
    }

    @Says(under = "Terms",
        words = "when 64 are there, the invocation ends at once instead, and its error is 99.")
    static void termsLogSixtyFifthIsNotCaught() {
        BoundChains x = deployed(bound(5, 1, 1, 1, 1, 1, 5, 5));
        Due.is("by an interceptor", x.invoke(0, 0, 1), 64);
        Due.ended("by an interceptor", x, 0, 99);
        BoundChains y = deployed(decorate(bound(1, 1, 1), 5, 1, 1, 5));
        Due.is("by a decorator", y.invoke(0, 0, 1), 64);
        Due.ended("by a decorator", y, 0, 99);
        BoundChains z = bound(0, 1, 1, 1, 1, 5, 0, 4);
        z.list(0, 0, 0);
        deployed(z);
        Due.is("instead of the error of the next", z.invoke(0, 0, 1), 64);
        Due.ended("instead of the error of the next", z, 0, 99);
        Due.is("the one before it", z.log(63), 6);
        Due.is("one entry fewer", z.invoke(0, 1, 1), 64);
        Due.ended("one entry fewer", z, 16 * -8, 0);
    }

    @Says(under = "Terms",
        words = "when 64 are there, the invocation ends at once instead, and its error is 99.")
    static void termsLogSixtyFifthEndsAnEvent() {
        for (int m = 4; m < 7; m++) {
            BoundChains x = deployed(bound(5, 0, 1, 1, 1, 1, 1));
            Due.is("too many", x.invoke(0, m, 1), 64);
            Due.ended("too many", x, 0, 99);
            BoundChains y = deployed(bound(5, 1, 1, 1, 1, 1));
            Due.is("just enough", y.invoke(0, m, 1), 64);
            Due.ended("just enough", y, 32 * 7, 0);
        }
    }

    /** The longest chain, all of it going twice: 64 entries are reached long before its end. */
    @Says(under = "Terms",
        words = "when 64 are there, the invocation ends at once instead, and its error is 99.")
    static void termsLogFullInTheLongestChain() {
        BoundChains x = bound(1, 1, 1, 1, 1, 1, 1, 1);
        for (int k = 0; k < 4; k++) {
            x.list(0, -1, k);
            x.list(0, 0, k);
        }
        deployed(decorate(x, 1, 1, 1, 1));
        Due.is("length", x.length(0, 0), 21);
        Due.is("invoke", x.invoke(0, 0, MOST), 64);
        Due.ended("invoke", x, 0, 99);
        Due.is("entry 20", x.log(20), 32);
        Due.is("entry 21", x.log(21), 32);
        Due.is("entry 22", x.log(22), 19);
    }

    @Says(under = "Terms",
        words = "What is entered either RETURNS an int or THROWS an error, an int that is not 0.")
    static void termsReturningZeroIsNoError() {
        BoundChains x = deployed(listed(0, 1, 5, 2));
        Due.is("proceeds again behind a 0", x.invoke(0, 0, 0), 5);
        Due.ended("a returned 0", x, 0, 0);
        returns("a target that returns 0", deployed(listed(3)), 3, -1, 0);
        returns("a returned number that is an error, too", deployed(listed(0, 5, 2)), 0, 99, 99);
        returns("a returned number below 0", deployed(listed(0, 5, 2)), 0, -3, -3);
    }

    @Says(under = "Terms", words = "To PROCEED is to enter the next element of the chain.")
    static void termsProceedFromThePlaceInTheChain() {
        BoundChains x = new BoundChains();
        x.component(0);
        x.interceptor(0, 15, 1);
        x.interceptor(0, 15, 0);
        x.list(0, -1, 0);
        x.list(0, -1, 1);
        x.list(0, 0, 0);
        deployed(x);
        Due.is("one that stands twice in the chain", x.invoke(0, 0, 5), 9);
        Due.logIs("one that stands twice in the chain", x, 0, 1, 0, 32, 32, 1, 0, 32, 32);
        Due.ended("one that stands twice in the chain", x, 4 * 15, 0);
    }

    @Says(under = "Terms", words = "An element that proceeds and gets an error from it throws the "
        + "same error itself, and does nothing more, except for behaviour 5.")
    static void termsAnErrorIsHandedOn() {
        for (int behaviour : new int[] {0, 1, 3}) {
            BoundChains x = deployed(listed(0, behaviour, 4));
            Due.is("an interceptor with " + behaviour, x.invoke(0, 0, 5), 2);
            Due.ended("an interceptor with " + behaviour, x, 0, 2);
            BoundChains y = deployed(decorated(behaviour, 4));
            Due.is("a decorator with " + behaviour, y.invoke(0, 0, 5), 2);
            Due.ended("a decorator with " + behaviour, y, 0, 18);
        }
        BoundChains x = failing(decorate(bound(1, 3, 1, 0, 3, 1, 0, 3), 1, 3, 1, 0));
        Due.is("through all of a chain", x.invoke(0, 3, 5), 13);
        Due.ended("through all of a chain", x, 0, 36);
        Due.is("the target is entered once", x.log(12), 32);
    }

    /** The second proceeding, too, may get an error: its element's argument has grown since. */
    @Says(under = "Terms", words = "throws the same error itself, and does nothing more, except "
        + "for behaviour 5.")
    static void termsAnErrorBehindACaughtOne() {
        BoundChains x = deployed(listed(0, 5, 5, 4));
        returns("the nearest catches", x, 0, 5, -3);
        BoundChains y = deployed(listed(0, 5, 4, 5));
        returns("one behind does not", y, 0, 5, -2);
        BoundChains z = deployed(listed(0, 4, 5));
        throwsError("none before it", z, 0, 5, 1);
        BoundChains w = deployed(listed(0, 1, 5, 4));
        Due.is("a caught error is gone: twice", w.invoke(0, 0, 5), 5);
        Due.ended("a caught error is gone: twice", w, -6, 0);
    }

    @Says(under = "Terms", words = "Behaviour 0: proceeds, and returns the int it got.")
    static void termsBehaviour0() {
        for (int argument : new int[] {LEAST, -1, 0, MOST}) {
            returns("interceptor", deployed(listed(0, 0, 2)), 0, argument, argument);
            returns("decorator", deployed(decorated(0, 2)), 0, argument, argument);
        }
        Due.is("entries", deployed(listed(0, 0)).invoke(0, 0, 1), 2);
    }

    @Says(under = "Terms",
        words = "1: proceeds, proceeds again, and returns the sum of both ints.")
    static void termsBehaviour1() {
        BoundChains x = deployed(listed(0, 1));
        Due.is("interceptor", x.invoke(0, 0, 7), 3);
        Due.ended("interceptor", x, 42, 0);
        Due.logIs("interceptor", x, 0, 32, 32);
        BoundChains y = deployed(decorated(1));
        Due.is("decorator", y.invoke(0, 0, 7), 3);
        Due.ended("decorator", y, 42, 0);
        returns("both ints may differ", deployed(listed(0, 1, 3, 2)), 0, 7, 2 * 8 + 2 * 9);
        throwsError("no second time after an error", failing(listed(0, 1)), 0, 7, 33);
    }

    @Says(under = "Terms",
        words = "2: does not proceed, and returns its argument (an interceptor: the shared one).")
    static void termsBehaviour2() {
        for (int argument : new int[] {LEAST, -1, 0, MOST}) {
            BoundChains x = failing(listed(0, 2, 4));
            Due.is("interceptor", x.invoke(0, 0, argument), 1);
            Due.ended("interceptor", x, argument, 0);
            BoundChains y = failing(decorated(2, 4));
            Due.is("decorator", y.invoke(0, 0, argument), 1);
            Due.ended("decorator", y, argument, 0);
        }
        returns("the shared one as it is now", deployed(listed(0, 3, 3, 2)), 0, 5, 4 * 7);
        returns("its own", deployed(decorate(listed(0, 3), 3, 2)), 0, 5, 4 * 7);
    }

    @Says(under = "Terms", words = "3: its argument grows by 1 (an interceptor's: the shared one, "
        + "which keeps that); then it proceeds, and returns two times the int it got.")
    static void termsBehaviour3() {
        returns("interceptor", deployed(listed(2, 3)), 2, 5, 2 * 20);
        returns("decorator", deployed(decorated(3)), 2, 5, 2 * 20);
        returns("from -1 to 0", deployed(listed(0, 3)), 0, -1, 0);
        returns("the shared one keeps that", deployed(listed(0, 1, 1, 3, 2)), 0, 0,
            2 * (1 + 2 + 3 + 4));
        returns("a decorator's does not", deployed(decorated(1, 1, 3, 2)), 0, 0,
            2 * (1 + 1 + 1 + 1));
        BoundChains y = new BoundChains();
        y.component(0);
        y.interceptor(0, 15, 1);
        y.interceptor(0, 15, 3);
        y.list(0, 0, 0);
        y.list(0, 0, 1);
        y.list(0, 0, 1);
        deployed(y);
        returns("by 1 for each time it is entered", y, 0, 0, 4 * 6 + 4 * 12);
    }

    @Says(under = "Terms", words = "4: throws its error.")
    static void termsBehaviour4() {
        BoundChains x = deployed(decorate(listed(0, 4, 0), 0));
        Due.is("interceptor", x.invoke(0, 0, 5), 1);
        Due.ended("interceptor", x, 0, 1);
        BoundChains y = deployed(decorated(4, 0));
        Due.is("decorator", y.invoke(0, 0, 5), 1);
        Due.ended("decorator", y, 0, 17);
        throwsError("in an event", deployed(listed(-1, 4)), 6, 5, 1);
    }

    @Says(under = "Terms", words = "5: proceeds; when it got an int, it returns it; when it got an "
        + "error, it returns that error times -1.")
    static void termsBehaviour5() {
        for (int argument : new int[] {LEAST, -1, 0, 33, MOST}) {
            returns("an int, interceptor", deployed(listed(0, 5, 2)), 0, argument, argument);
            returns("an int, decorator", deployed(decorated(5, 2)), 0, argument, argument);
        }
        for (int m = 0; m < 4; m++) {
            returns("the target's error, interceptor", failing(listed(m, 5)), m, 5, -33 - m);
            returns("the target's error, decorator", failing(decorated(5)), m, 5, -33 - m);
        }
        returns("an interceptor's error", deployed(listed(0, 5, 4)), 0, 5, -2);
        returns("a decorator's error", deployed(decorated(5, 4)), 0, 5, -18);
        returns("the error of one that grows in an event", deployed(listed(-1, 5, 3)), 4, 5, -50);
    }

    @Says(under = "Terms",
        words = "A decorator proceeds with its own argument (with behaviour 3: as it has grown).")
    static void termsADecoratorProceedsWithItsOwnArgument() {
        for (int behaviour : new int[] {0, 5}) {
            returns("behaviour " + behaviour, deployed(decorated(behaviour)), 1, 5, 16);
        }
        returns("behaviour 1, both times", deployed(decorated(1)), 1, 5, 32);
        returns("behaviour 3, as it has grown", deployed(decorated(3, 0, 3, 2)), 1, 5, 4 * 7);
        BoundChains x = deployed(decorate(listed(0, 3), 3, 1, 3, 0));
        returns("not with the shared one", x, 0, 5, 2 * 2 * (2 * 24 + 2 * 24));
    }

    @Says(under = "Terms",
        words = "The error of interceptor i is 1 + i, that of decorator d 17 + d.")
    static void termsErrorsOfTheFirstAndTheLast() {
        for (int i = 0; i < 8; i++) {
            BoundChains x = new BoundChains();
            x.component(0);
            for (int k = 0; k < 8; k++) {
                x.interceptor(0, 15, 4);
            }
            x.list(0, -1, i);
            deployed(x);
            throwsError("interceptor " + i, x, 0, 5, 1 + i);
            throwsError("interceptor " + i + " in an event", x, 4, 5, 1 + i);
        }
        for (int d = 0; d < 4; d++) {
            BoundChains x = new BoundChains();
            x.component(1);
            for (int k = 0; k < 4; k++) {
                x.decorator(1, 0, 1 << k, 4);
            }
            deployed(x);
            throwsError("decorator " + d, x, d, 5, 17 + d);
        }
    }

    @Says(under = "Terms", words = "The target of method m, with argument a, returns 3 a + m, but "
        + "throws 33 + m when the method is FAILING.")
    static void termsTargetOfEachMethod() {
        for (int m = 0; m < 4; m++) {
            BoundChains x = new BoundChains();
            x.component(0);
            x.flags(0, (m + 1) % 4, 4);
            deployed(x);
            returns("3 * 0 + " + m, x, m, 0, m);
            returns("3 * 10 + " + m, x, m, 10, 30 + m);
            returns("3 * -10 + " + m, x, m, -10, m - 30);
            throwsError("another one fails", x, (m + 1) % 4, 10, 33 + (m + 1) % 4);
            for (int event = 4; event < 7; event++) {
                returns("an event does not fail", x, event, 10, 7);
            }
        }
    }

    @Says(under = "Terms", words = "All sums and products wrap as ints do.")
    static void termsTargetWraps() {
        BoundChains x = deployed(listed(0));
        int[] sums = {MOST - 1, MOST, LEAST, LEAST + 1};
        for (int m = 0; m < 4; m++) {
            returns("the sum wraps at method " + m, x, m, THIRD, sums[m]);
            returns("the product wraps, method " + m, x, m, THIRD + 1, LEAST + 1 + m);
        }
        returns("the least product", x, 0, -THIRD, LEAST + 2);
        returns("the product wraps below", x, 0, -THIRD - 1, MOST);
        returns("and the sum wraps back", x, 1, -THIRD - 1, LEAST);
        returns("the greatest argument", x, 3, MOST, MOST - 2 + 3);
        returns("the least argument", x, 3, LEAST, LEAST + 3);
    }

    @Says(under = "Terms", words = "All sums and products wrap as ints do.")
    static void termsSumOfBothIntsWraps() {
        int[] arguments = {MOST, LEAST, 1 << 30, -(1 << 30), -(1 << 30) - 1};
        int[] due = {-2, 0, LEAST, LEAST, MOST - 1};
        for (int k = 0; k < 5; k++) {
            returns("interceptor", deployed(listed(0, 1, 2)), 0, arguments[k], due[k]);
            returns("decorator", deployed(decorated(1, 2)), 0, arguments[k], due[k]);
        }
    }

    @Says(under = "Terms", words = "All sums and products wrap as ints do.")
    static void termsGrowingWraps() {
        returns("the shared argument", deployed(listed(0, 3, 3, 2)), 0, MOST, 4 * (LEAST + 1));
        returns("to the least, doubled to 0", deployed(listed(0, 3, 2)), 0, MOST, 0);
        returns("an own argument", deployed(decorated(3, 3, 2)), 0, MOST, 4 * (LEAST + 1));
        returns("given to the target", deployed(listed(1, 3)), 1, MOST, 2 * (LEAST + 1));
        returns("given to the target by a decorator", deployed(decorated(3)), 1, MOST,
            2 * (LEAST + 1));
    }

    @Says(under = "Terms", words = "All sums and products wrap as ints do.")
    static void termsTwoTimesWraps() {
        int half = 1 << 30;
        returns("to the least", deployed(listed(0, 3, 2)), 0, half - 1, LEAST);
        returns("to the most but one", deployed(listed(0, 3, 2)), 0, -half - 2, MOST - 1);
        returns("of the least", deployed(listed(0, 3, 2)), 0, LEAST - 1, 0);
        returns("just not", deployed(listed(0, 3, 2)), 0, half - 2, MOST - 1);
        returns("a decorator's", deployed(decorated(3, 2)), 0, half - 1, LEAST);
    }

    @Says(under = "Terms",
        words = "AN EVENT runs its chain as an invocation with the argument 0;")
    static void termsEventWithTheArgumentZero() {
        for (int m = 4; m < 7; m++) {
            for (int argument : new int[] {LEAST, -1, 0, 1, MOST}) {
                returns("event " + m, deployed(listed(-1, 1, 5, 2)), m, argument, 0);
            }
        }
    }

    @Says(under = "Terms", words = "an interceptor with behaviour 3 throws 50 in it, and does "
        + "nothing else;")
    static void termsEventOneThatGrowsThrowsFifty() {
        for (int m = 4; m < 7; m++) {
            BoundChains x = deployed(listed(-1, 3, 4));
            Due.is("it does not proceed", x.invoke(0, m, 5), 1);
            Due.ended("it does not proceed", x, 0, 50);
            BoundChains y = deployed(listed(-1, 1, 5, 0, 3));
            Due.is("twice, caught", y.invoke(0, m, 5), 7);
            Due.ended("twice, caught", y, -100, 0);
        }
        BoundChains z = deployed(listed(-1, 3));
        throwsError("an event", z, 4, 5, 50);
        returns("but not for a method", z, 0, 5, 2 * 18);
        BoundChains w = deployed(bound(0, 1, 5, 3, 4));
        throwsError("a bound one", deployed(bound(0, 3, 4)), 5, 5, 50);
        returns("a bound one, caught", w, 6, 5, -100);
    }

    @Says(under = "Terms", words = "the target returns 7.")
    static void termsEventTargetReturnsSeven() {
        BoundChains x = failing(decorate(listed(-1), 4));
        BoundChains y = failing(listed(-1, 1, 1));
        for (int m = 4; m < 7; m++) {
            returns("the target alone", x, m, MOST, 7);
            Due.logIs("the target alone", x, 32);
            returns("four times", y, m, MOST, 28);
        }
    }

    @Says(under = "Promise 15", words = "`int invoke(int component, int m, int argument)`: Empties "
        + "the log (not if it is refused), and makes an invocation of method m of a component, or, "
        + "for m from 4 to 6, its event (argument is not looked at then).")
    static void promise15InvokeEmptiesTheLog() {
        BoundChains x = bound(0, 0, 1, 1, 1, 1, 1);
        x.component(0);
        deployed(x);
        Due.is("a full log", x.invoke(0, 0, 1), 64);
        Due.ended("a full log", x, 0, 99);
        Due.is("refused: no component", x.invoke(2, 0, 1), NOTHING);
        Due.is("refused: no method", x.invoke(0, 7, 1), NOTHING);
        Due.is("kept", x.log(63), 32);
        Due.ended("kept", x, 0, 99);
        Due.is("a log of one", x.invoke(1, 0, 1), 1);
        Due.logIs("a log of one", x, 32);
        Due.is("nothing left of the full one", x.log(63), NOTHING);
        Due.ended("a log of one", x, 3, 0);
        Due.is("refused after that", x.invoke(-1, 0, 1), NOTHING);
        Due.logIs("kept again", x, 32);
        Due.ended("kept again", x, 3, 0);
        Due.is("full again", x.invoke(0, 4, 1), 64);
        Due.ended("full again", x, 0, 99);
    }

    @Says(under = "Promise 15", words = "(argument is not looked at then).")
    static void promise15InvokeAnEventWithAnyArgument() {
        for (int argument : new int[] {LEAST, -1, 1, MOST}) {
            BoundChains x = deployed(listed(-1, 2));
            returns("a method's is looked at", x, 3, argument, argument);
            for (int m = 4; m < 7; m++) {
                returns("an event's is not", x, m, argument, 0);
            }
        }
    }

    @Says(under = "Promise 15", words = "Answers the number of entries of the log.")
    static void promise15InvokeAnswersFromOneToSixtyFour() {
        BoundChains x = new BoundChains();
        x.component(0);
        x.component(0);
        x.binding(true);
        x.interceptor(0, 15, 1);
        x.interceptor(0, 15, 0);
        x.list(1, -1, 1);
        for (int m = 0; m < 4; m++) {
            for (int k = 0; k <= m; k++) {
                x.list(0, m, 0);
            }
        }
        for (int k = 0; k < 3; k++) {
            x.list(1, -1, 0);
        }
        x.list(1, 0, 0);
        x.list(1, 1, 0);
        x.list(1, 1, 0);
        deployed(x);
        Due.is("an event's target", x.invoke(0, 4, 0), 1);
        for (int m = 0; m < 4; m++) {
            Due.is("doubled " + (m + 1) + " times", x.invoke(0, m, 0), (4 << m) - 1);
        }
        Due.is("32 of 64", x.invoke(1, 0, 0), 32);
        Due.is("64 of 64", x.invoke(1, 1, 0), 64);
        Due.ended("64 of 64", x, 32, 0);
    }

    @Says(under = "Promise 15",
        words = "OPEN; NOTHING when there is no such component or m is not 0 .. 6.")
    static void promise15InvokeOpenAndNothing() {
        BoundChains x = listed(0);
        x.component(0);
        Due.is("open", x.invoke(0, 0, 0), OPEN);
        Due.is("open and no component", x.invoke(2, 0, 0), OPEN);
        Due.is("open and no method", x.invoke(0, 7, 0), OPEN);
        deployed(x);
        for (int wrong : new int[] {LEAST, -1, 2, 3, 4, MOST}) {
            Due.is("no component " + wrong, x.invoke(wrong, 0, 0), NOTHING);
        }
        for (int wrong : new int[] {LEAST, -2, -1, 7, 8, MOST}) {
            Due.is("no method " + wrong, x.invoke(1, wrong, 0), NOTHING);
        }
        Due.logIs("none was made", x);
        Due.ended("none was made", x, 0, 0);
        Due.is("the last component and event", x.invoke(1, 6, 0), 1);
    }

    @Says(under = "Promise 16", words = "`int result()`: What the latest invocation or event "
        + "returned; 0 when it ended by an error, or when there was none since the object was made "
        + "or clear() was called.")
    static void promise16ResultOfTheLatest() {
        BoundChains x = new BoundChains();
        Due.is("none since it was made", x.result(), 0);
        x.component(0);
        x.flags(0, 1, 4);
        Due.is("none while declaring", x.result(), 0);
        deployed(x);
        Due.is("none since deployment", x.result(), 0);
        x.invoke(0, 0, LEAST);
        Due.is("the least", x.result(), LEAST);
        Due.is("asked again", x.result(), LEAST);
        x.invoke(0, 4, 0);
        Due.is("an event", x.result(), 7);
        x.invoke(0, 1, 5);
        Due.is("ended by an error", x.result(), 0);
        x.invoke(0, 0, -1);
        Due.is("below 0", x.result(), -3);
        x.clear();
        Due.is("none since clear", x.result(), 0);
        Due.is("deploy", x.deploy(), 0);
        Due.is("none since clear, deployed", x.result(), 0);
    }

    @Says(under = "Promise 17", words = "`int error()`: The error that the latest invocation or "
        + "event ended by; 0 when it returned, or when there was none since the object was made or "
        + "clear() was called.")
    static void promise17ErrorOfTheLatest() {
        BoundChains x = new BoundChains();
        Due.is("none since it was made", x.error(), 0);
        x.component(0);
        x.interceptor(0, 2, 3);
        x.list(0, -1, 0);
        x.flags(0, 3, 4);
        Due.is("none while declaring", x.error(), 0);
        deployed(x);
        Due.is("none since deployment", x.error(), 0);
        x.invoke(0, 3, 5);
        Due.is("a method's", x.error(), 36);
        Due.is("asked again", x.error(), 36);
        x.invoke(0, 4, 5);
        Due.is("an event's", x.error(), 50);
        x.invoke(0, 0, 5);
        Due.is("it returned", x.error(), 0);
        x.invoke(0, 3, 5);
        Due.is("the latest again", x.error(), 36);
        x.clear();
        Due.is("none since clear", x.error(), 0);
        Due.is("deploy", x.deploy(), 0);
        Due.is("none since clear, deployed", x.error(), 0);
    }

    @Says(under = "Promise 18", words = "`int log(int k)`: Entry k (0 the first) of the log, an "
        + "element as in element(); NOTHING when there is none.")
    static void promise18LogEntries() {
        BoundChains x = new BoundChains();
        Due.logIs("none since it was made", x);
        x.component(1);
        for (int i = 0; i < 8; i++) {
            x.interceptor(0, 15, 0);
        }
        x.list(0, 0, 7);
        x.list(0, 0, 0);
        decorate(x, 0, 0, 0, 0);
        Due.logIs("none while declaring", x);
        deployed(x);
        Due.logIs("none since deployment", x);
        x.invoke(0, 0, 5);
        Due.logIs("elements", x, 7, 0, 16, 17, 18, 19, 32);
        for (int wrong : new int[] {LEAST, -1, 7, 63, 64, 65, MOST}) {
            Due.is("no entry " + wrong, x.log(wrong), NOTHING);
        }
        x.invoke(0, 4, 5);
        Due.logIs("a shorter one", x, 32);
        x.clear();
        Due.logIs("none since clear", x);
    }

    @Says(under = "Promise 18", words = "NOTHING when there is none.")
    static void promise18LogOfSixtyFourEntries() {
        BoundChains x = deployed(bound(0, 0, 1, 1, 1, 1, 1));
        x.invoke(0, 0, 5);
        int[] begins = {0, 1, 2, 3, 4, 5, 6, 32, 32, 6, 32, 32, 5, 6, 32, 32};
        for (int k = 0; k < begins.length; k++) {
            Due.is("entry " + k, x.log(k), begins[k]);
        }
        Due.is("the last entry", x.log(63), 32);
        for (int wrong : new int[] {LEAST, -1, 64, 65, MOST}) {
            Due.is("no entry " + wrong, x.log(wrong), NOTHING);
        }
    }
}
