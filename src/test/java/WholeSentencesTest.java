/** What the class is for, from the first declaration to the last answer, and for how long. */
final class WholeSentencesTest {
    private static final int CLOSED = BoundChains.CLOSED;
    private static final int NOTHING = BoundChains.NOTHING;

    public static void main(String[] args) {
        Sentences.test(WholeSentencesTest.class);
    }

    /** Binding type 0 carries type 1 with value 7; component 0 has 0, its method 2 has 1 with 8. */
    private static BoundChains declared() {
        BoundChains x = new BoundChains();
        Due.is("type 0", x.binding(false), 0);
        Due.is("type 1", x.binding(true), 1);
        Due.is("0 carries 1", x.carry(0, 1, 7), 0);
        Due.is("interceptor 0", x.interceptor(9, 15, 0), 0);
        Due.is("interceptor 1", x.interceptor(2, 1, 3), 1);
        Due.is("interceptor 2", x.interceptor(0, 5, 1), 2);
        Due.is("interceptor 3", x.interceptor(5, 9, 5), 3);
        Due.is("0 is bound by 0", x.bindInterceptor(0, 0, 0), 0);
        Due.is("1 is bound by 1", x.bindInterceptor(1, 1, 7), 0);
        Due.is("3 is bound by 1", x.bindInterceptor(3, 1, 8), 0);
        Due.is("decorator 0", x.decorator(4, 3, 6, 3), 0);
        Due.is("decorator 1", x.decorator(1, 6, 15, 0), 1);
        Due.is("component 0", x.component(1 << 3 | 1 << 6), 0);
        Due.is("component 1", x.component(1 << 6), 1);
        Due.is("component 0 has 0", x.bind(0, -1, 0, 0), 0);
        Due.is("method 2 has 1", x.bind(0, 2, 1, 8), 0);
        Due.is("component 0 lists 2", x.list(0, -1, 2), 0);
        Due.is("method 1 lists 3", x.list(0, 1, 3), 0);
        Due.is("method 2 is alone and failing", x.flags(0, 2, 6), 0);
        return x;
    }

    @Says(under = "What it is", words = "Finds, for the methods and events of components, which "
        + "interceptors and decorators stand before them and in what order, from bindings that "
        + "carry other bindings, explicit lists and priorities")
    static void chainsAreFound() {
        BoundChains x = declared();
        Due.is("deploy", x.deploy(), 0);
        Due.chainIs("method 0", x, 0, 0, 2, 1, 0, 17, 32);
        Due.chainIs("method 1", x, 0, 1, 2, 3, 1, 0, 17, 16, 32);
        Due.chainIs("method 2", x, 0, 2, 3, 17, 16, 32);
        Due.chainIs("method 3", x, 0, 3, 2, 1, 0, 17, 32);
        Due.chainIs("MAKING", x, 0, 4, 0, 32);
        Due.chainIs("STARTING", x, 0, 5, 2, 0, 32);
        Due.chainIs("STOPPING", x, 0, 6, 0, 32);
        Due.chainIs("method 0 of component 1", x, 1, 0, 17, 32);
        Due.chainIs("MAKING of component 1", x, 1, 4, 32);
    }

    @Says(under = "What it is", words = "; says what is wrong with a set of declarations")
    static void whatIsWrongIsSaid() {
        BoundChains x = declared();
        Due.is("interceptor 3, which has 8, gets what carries 7", x.bindInterceptor(3, 0, 0), 0);
        Due.is("found first", x.deploy(), 103);
        x = declared();
        Due.is("component 1 has 9", x.bind(1, -1, 1, 9), 0);
        Due.is("and what carries 7", x.bind(1, -1, 0, 9), 0);
        Due.is("method 3 of component 0 has what carries 7", x.bind(0, 3, 0, 9), 0);
        Due.is("and 9", x.bind(0, 3, 1, 9), 0);
        Due.is("found first", x.deploy(), 204);
        x = declared();
        Due.is("method 0 of component 1 is final", x.flags(1, 0, 1), 0);
        Due.is("found", x.deploy(), 304);
        Due.is("not final any more", x.flags(1, 0, 0), 0);
        Due.is("nothing is wrong", x.deploy(), 0);
    }

    @Says(under = "What it is", words = "; and runs invocations through these chains.")
    static void invocationsAreRun() {
        BoundChains x = declared();
        Due.is("deploy", x.deploy(), 0);
        Due.is("method 1", x.invoke(0, 1, 10), 13);
        Due.ended("method 1", x, 2 * (2 * (3 * 12 + 1)) + 2 * (2 * (3 * 13 + 1)), 0);
        Due.logIs("method 1", x, 2, 3, 1, 0, 17, 16, 32, 3, 1, 0, 17, 16, 32);
        Due.is("method 2", x.invoke(0, 2, 10), 4);
        Due.ended("method 2", x, -35, 0);
        Due.logIs("method 2", x, 3, 17, 16, 32);
        Due.is("STARTING", x.invoke(0, 5, 10), 5);
        Due.ended("STARTING", x, 14, 0);
        Due.logIs("STARTING", x, 2, 0, 32, 0, 32);
        Due.is("method 3 of component 1", x.invoke(1, 3, 10), 2);
        Due.ended("method 3 of component 1", x, 33, 0);
        Due.logIs("method 3 of component 1", x, 17, 32);
    }

    /** No static state: what one object is told, another one does not know. */
    @Says(under = "Promise 1", words = "Nothing declared.")
    static void promise1ObjectsDoNotKnowOneAnother() {
        BoundChains first = declared();
        BoundChains second = new BoundChains();
        Due.is("no component", second.bind(0, 0, 0, 0), NOTHING);
        Due.is("nothing is wrong with nothing", second.deploy(), 0);
        Due.is("the first one is open", first.length(0, 0), BoundChains.OPEN);
        Due.is("deploy the first one", first.deploy(), 0);
        Due.is("invoke the first one", first.invoke(0, 1, 10), 13);
        Due.is("the second one has no component", second.invoke(0, 1, 10), NOTHING);
        Due.logIs("the second one", second);
        Due.ended("the second one", second, 0, 0);
        second.clear();
        Due.is("the first one is as it was", first.length(0, 1), 7);
        Due.is("its log too", first.log(12), 32);
    }

    /** The 512 calls of one object: 16 times 32, all of them looked at, the last one too. */
    @Says(under = "What it is", words = "An object is used for at most 512 calls after it has been "
        + "made; what later calls answer is free.")
    static void anObjectIsGoodForFiveHundredAndTwelveCalls() {
        BoundChains x = new BoundChains();
        for (int round = 0; round < 16; round++) {
            Due.is("binding", x.binding(true), 0);
            for (int i = 0; i < 8; i++) {
                Due.is("interceptor", x.interceptor(1, 15, i < 2 ? 0 : i == 2 ? 5 : 1), i);
                Due.is("bindInterceptor", x.bindInterceptor(i, 0, round), 0);
            }
            Due.is("component", x.component(1), 0);
            Due.is("bind", x.bind(0, -1, 0, round), 0);
            Due.is("list", x.list(0, 0, 7), 0);
            Due.is("flags", x.flags(0, 0, 2), 0);
            Due.is("deploy", x.deploy(), 0);
            Due.is("length", x.length(0, 0), 10);
            Due.is("length of an event", x.length(0, 6), 9);
            Due.is("element", x.element(0, 0, 0), 7);
            Due.is("invoke", x.invoke(0, 0, 1), 64);
            Due.is("result", x.result(), 0);
            Due.is("error", x.error(), 99);
            Due.is("log", x.log(0), 7);
            Due.is("log 64", x.log(64), NOTHING);
            if (round < 15) {
                Due.is("closed", x.deploy(), CLOSED);
                x.clear();
            } else {
                Due.is("the call before the last", x.invoke(0, 6, 1), 64);
                Due.is("the last call", x.log(63), 7);
            }
        }
    }
}
