/** The sentences on bindings in force, bound interceptors and chains. */
final class ChainSentencesTest {
    private static final int NOTHING = BoundChains.NOTHING;
    private static final int OPEN = BoundChains.OPEN;
    private static final int LEAST = Integer.MIN_VALUE;
    private static final int MOST = Integer.MAX_VALUE;

    public static void main(String[] args) {
        Sentences.test(ChainSentencesTest.class);
    }

    private static BoundChains with(int types, int interceptors, int components) {
        BoundChains x = new BoundChains();
        for (int b = 0; b < types; b++) {
            x.binding(true);
        }
        for (int i = 0; i < interceptors; i++) {
            x.interceptor(1, 15, 0);
        }
        for (int c = 0; c < components; c++) {
            x.component(1);
        }
        return x;
    }

    private static void deploy(BoundChains x) {
        Due.is("deploy", x.deploy(), 0);
    }

    @Says(under = "Terms", words = "THE BINDINGS IN FORCE for a method are the closure of its "
        + "bindings, and of the closure of its component's own bindings those whose type is not "
        + "among the types of the former.")
    static void termsInForceOfTheMethodOrElseOfTheComponent() {
        BoundChains x = with(2, 4, 3);
        for (int i = 0; i < 4; i++) {
            x.bindInterceptor(i, i / 2, i % 2);
        }
        x.bind(0, -1, 0, 0);
        x.bind(0, -1, 1, 0);
        x.bind(0, 1, 0, 1);
        x.bind(0, 2, 0, 1);
        x.bind(0, 2, 1, 1);
        x.bind(0, 3, 0, 0);
        x.bind(1, 0, 1, 1);
        deploy(x);
        Due.chainIs("a method without bindings", x, 0, 0, 0, 2, 32);
        Due.chainIs("one of two types hidden", x, 0, 1, 1, 2, 32);
        Due.chainIs("both types hidden", x, 0, 2, 1, 3, 32);
        Due.chainIs("the same value as the component", x, 0, 3, 0, 2, 32);
        Due.chainIs("a component without bindings", x, 1, 0, 3, 32);
        Due.chainIs("neither has bindings", x, 2, 0, 32);
    }

    @Says(under = "Terms", words = "those whose type is not among the types of the former.")
    static void termsInForceHidesByTypesThatAreCarried() {
        BoundChains x = with(4, 4, 1);
        x.carry(0, 1, 5);
        x.carry(2, 1, 6);
        x.carry(2, 3, 7);
        x.bindInterceptor(0, 1, 5);
        x.bindInterceptor(1, 1, 6);
        x.bindInterceptor(2, 2, 1);
        x.bindInterceptor(3, 3, 7);
        x.bind(0, -1, 2, 1);
        x.bind(0, 0, 0, 1);
        x.bind(0, 1, 2, 2);
        x.bind(0, 2, 3, 0);
        deploy(x);
        Due.chainIs("the component's carried type hidden by a carried one", x, 0, 0, 0, 3, 32);
        Due.chainIs("the component's type hidden by another value", x, 0, 1, 1, 3, 32);
        Due.chainIs("the component's carried type hidden by a given one", x, 0, 2, 1, 32);
        Due.chainIs("nothing hidden", x, 0, 3, 1, 2, 3, 32);
    }

    @Says(under = "Terms",
        words = "For an event, they are the closure of the component's own bindings.")
    static void termsInForceForAnEvent() {
        BoundChains x = with(3, 3, 2);
        x.carry(0, 1, LEAST);
        x.bindInterceptor(0, 0, 1);
        x.bindInterceptor(1, 1, LEAST);
        x.bindInterceptor(2, 2, 1);
        x.bind(0, -1, 0, 1);
        for (int m = 0; m < 4; m++) {
            x.bind(0, m, 1, MOST);
            x.bind(0, m, 2, 1);
            x.bind(1, m, 2, 1);
        }
        deploy(x);
        for (int m = 4; m < 7; m++) {
            Due.chainIs("what methods have is not asked", x, 0, m, 0, 1, 32);
            Due.chainIs("a component without bindings", x, 1, m, 32);
        }
    }

    @Says(under = "Terms", words = "An interceptor is BOUND where it is enabled, has at least one "
        + "binding, and all bindings of the closure of its bindings are among those in force.")
    static void termsBoundOnlyWithABindingAndEnabled() {
        BoundChains x = new BoundChains();
        x.binding(true);
        x.interceptor(1, 15, 0);
        x.interceptor(0, 15, 0);
        x.interceptor(1, 15, 0);
        x.interceptor(9, 15, 0);
        x.bindInterceptor(1, 0, 0);
        x.bindInterceptor(2, 0, 0);
        x.bindInterceptor(3, 0, 0);
        x.component(0);
        x.component(0);
        x.bind(0, -1, 0, 0);
        deploy(x);
        for (int m = 0; m < 7; m++) {
            Due.chainIs("without a binding, and not enabled", x, 0, m, 2, 3, 32);
            Due.chainIs("where nothing is in force", x, 1, m, 32);
        }
    }

    @Says(under = "Terms",
        words = "all bindings of the closure of its bindings are among those in force.")
    static void termsBoundOnlyWhenAllOfItsClosureIsInForce() {
        BoundChains x = with(6, 4, 1);
        x.carry(4, 5, 9);
        for (int b = 0; b < 4; b++) {
            x.bindInterceptor(0, b, 0);
        }
        x.bindInterceptor(1, 0, 0);
        x.bindInterceptor(1, 3, 1);
        x.bindInterceptor(2, 4, 0);
        x.bindInterceptor(3, 0, 0);
        for (int b = 0; b < 4; b++) {
            x.bind(0, 0, b, 0);
            x.bind(0, 1, b, b == 3 ? 1 : 0);
        }
        x.bind(0, 2, 4, 0);
        x.bind(0, -1, 4, 0);
        x.bind(0, 3, 5, 8);
        deploy(x);
        Due.chainIs("all four", x, 0, 0, 0, 2, 3, 32);
        Due.chainIs("the last with another value", x, 0, 1, 1, 2, 3, 32);
        Due.chainIs("with what is carried", x, 0, 2, 2, 32);
        Due.chainIs("what is carried is hidden by another value", x, 0, 3, 32);
    }

    @Says(under = "Terms", words = "THE CHAIN of a method of a component is, in this order: the "
        + "interceptors of the component's list, unless the method is ALONE; those of the method's "
        + "list; the bound ones;")
    static void termsChainOfAMethodInThisOrder() {
        BoundChains x = with(1, 3, 1);
        x.bindInterceptor(0, 0, 0);
        x.bind(0, -1, 0, 0);
        x.list(0, -1, 2);
        x.list(0, -1, 0);
        x.list(0, 0, 1);
        x.list(0, 0, 0);
        x.list(0, 1, 1);
        x.decorator(1, 0, 15, 0);
        x.flags(0, 1, 2);
        x.flags(0, 2, 2);
        deploy(x);
        Due.chainIs("not alone: the same one in both lists and bound", x, 0, 0,
            2, 0, 1, 0, 0, 16, 32);
        Due.chainIs("alone", x, 0, 1, 1, 0, 16, 32);
        Due.chainIs("alone, with an empty list", x, 0, 2, 0, 16, 32);
        Due.chainIs("not alone, with an empty list", x, 0, 3, 2, 0, 0, 16, 32);
        Due.chainIs("alone is no matter of events", x, 0, 4, 2, 0, 0, 32);
    }

    @Says(under = "Terms", words = "THE CHAIN of a method of a component is, in this order:")
    static void termsChainOfAMethodLongest() {
        BoundChains x = with(1, 8, 1);
        for (int i = 0; i < 8; i++) {
            x.bindInterceptor(i, 0, 0);
        }
        for (int k = 0; k < 4; k++) {
            x.list(0, -1, 7);
            x.list(0, 3, 6);
            x.decorator(1, 0, 15, 0);
        }
        x.bind(0, 3, 0, 0);
        deploy(x);
        Due.chainIs("four, four, eight, four and the target", x, 0, 3,
            7, 7, 7, 7, 6, 6, 6, 6, 0, 1, 2, 3, 4, 5, 6, 7, 16, 17, 18, 19, 32);
    }

    @Says(under = "Terms", words = "of all these only those that take part in AROUND;")
    static void termsChainOfAMethodOnlyAround() {
        for (int kinds = 0; kinds < 16; kinds++) {
            BoundChains x = with(1, 0, 1);
            x.interceptor(1, kinds, 0);
            x.bindInterceptor(0, 0, 0);
            x.bind(0, 0, 0, 0);
            x.list(0, 1, 0);
            x.list(0, -1, 0);
            x.flags(0, 0, 2);
            x.flags(0, 1, 2);
            deploy(x);
            int due = kinds % 2 == 1 ? 2 : 1;
            Due.is("bound, kinds " + kinds, x.length(0, 0), due);
            Due.is("listed for the method, kinds " + kinds, x.length(0, 1), due);
            Due.is("listed for the component, kinds " + kinds, x.length(0, 2), due);
        }
    }

    @Says(under = "Terms", words = "then the decorators that are enabled, decorate the method, and "
        + "whose type is one of the component's types; then the TARGET.")
    static void termsChainOfAMethodItsDecorators() {
        BoundChains x = new BoundChains();
        x.decorator(1, 7, 8, 0);
        x.decorator(0, 7, 15, 0);
        x.decorator(1, 0, 7, 0);
        x.decorator(1, 0, 9, 0);
        x.component(0);
        x.component(1);
        x.component(128);
        x.component(255);
        deploy(x);
        Due.chainIs("no types", x, 0, 3, 32);
        Due.chainIs("the first type", x, 1, 3, 19, 32);
        Due.chainIs("the last type", x, 2, 3, 16, 32);
        Due.chainIs("all types", x, 3, 3, 16, 19, 32);
        Due.chainIs("all types, the first method", x, 3, 0, 18, 19, 32);
        Due.chainIs("all types, another method", x, 3, 1, 18, 32);
    }

    @Says(under = "Terms", words = "The chain of an event (MAKING, STARTING or STOPPING) is: the "
        + "interceptors of the component's list, then the bound ones; of these only those that "
        + "take part in that kind; then the target.")
    static void termsChainOfAnEvent() {
        BoundChains x = with(1, 0, 1);
        for (int i = 0; i < 8; i++) {
            x.interceptor(1, i < 4 ? 1 << i : 15 - (1 << i - 4), 0);
            x.bindInterceptor(i, 0, 0);
        }
        x.list(0, -1, 7);
        x.list(0, -1, 3);
        x.list(0, -1, 2);
        x.list(0, -1, 1);
        x.list(0, 0, 4);
        x.bind(0, -1, 0, 0);
        x.decorator(1, 0, 15, 0);
        x.flags(0, 0, 6);
        deploy(x);
        Due.chainIs("making", x, 0, 4, 7, 1, 1, 4, 6, 7, 32);
        Due.chainIs("starting", x, 0, 5, 7, 2, 2, 4, 5, 7, 32);
        Due.chainIs("stopping", x, 0, 6, 3, 3, 4, 5, 6, 32);
    }

    @Says(under = "Terms", words = "Bound interceptors stand in the order of their priorities, the "
        + "least first, and for equal priorities of their numbers; so do decorators.")
    static void termsOrderOfPrioritiesAndNumbers() {
        int[][] priorities = {{9, 8, 7, 6, 5, 4, 3, 2}, {1, 9, 1, 9, 1, 9, 1, 9},
            {5, 5, 5, 5, 5, 5, 5, 5}, {9, 1, 2, 3, 4, 5, 6, 7}};
        int[][] due = {{7, 6, 5, 4, 3, 2, 1, 0, 32}, {0, 2, 4, 6, 1, 3, 5, 7, 32},
            {0, 1, 2, 3, 4, 5, 6, 7, 32}, {1, 2, 3, 4, 5, 6, 7, 0, 32}};
        for (int k = 0; k < 4; k++) {
            BoundChains x = with(1, 0, 1);
            for (int i = 0; i < 8; i++) {
                x.interceptor(priorities[k][i], 15, 0);
                x.bindInterceptor(i, 0, 0);
            }
            x.bind(0, -1, 0, 0);
            deploy(x);
            Due.chainIs("interceptors of a method " + k, x, 0, 3, due[k]);
            Due.chainIs("interceptors of an event " + k, x, 0, 6, due[k]);
        }
    }

    @Says(under = "Terms", words = "so do decorators.")
    static void termsOrderOfDecorators() {
        int[][] priorities = {{9, 8, 2, 1}, {1, 9, 1, 9}, {3, 3, 3, 3}, {9, 1, 5, 1}};
        int[][] due = {{19, 18, 17, 16, 32}, {16, 18, 17, 19, 32}, {16, 17, 18, 19, 32},
            {17, 19, 18, 16, 32}};
        for (int k = 0; k < 4; k++) {
            BoundChains x = with(0, 0, 1);
            for (int d = 0; d < 4; d++) {
                x.decorator(priorities[k][d], 0, 15, 0);
            }
            deploy(x);
            Due.chainIs("decorators " + k, x, 0, 0, due[k]);
        }
    }

    @Says(under = "Promise 13", words = "`int length(int component, int m)`: The number of "
        + "elements of the chain of method m of a component, for m from 4 to 6 of its event (4 "
        + "MAKING, 5 STARTING, 6 STOPPING).")
    static void promise13LengthLeastAndMost() {
        BoundChains x = with(1, 8, 4);
        for (int i = 0; i < 8; i++) {
            x.bindInterceptor(i, 0, 0);
        }
        for (int k = 0; k < 4; k++) {
            x.decorator(1, 0, 15, 0);
            x.list(3, -1, k);
            x.list(3, 3, k);
        }
        x.bind(3, -1, 0, 0);
        for (int k = 0; k < 2; k++) {
            x.flags(0, k, 4);
        }
        deploy(x);
        Due.is("the most of a method", x.length(3, 3), 21);
        Due.is("a method without a list", x.length(3, 0), 17);
        for (int m = 4; m < 7; m++) {
            Due.is("the most of an event", x.length(3, m), 13);
            Due.is("the least of an event", x.length(0, m), 1);
        }
        Due.is("decorators alone", x.length(0, 0), 5);
        BoundChains y = new BoundChains();
        y.component(0);
        deploy(y);
        for (int m = 0; m < 7; m++) {
            Due.is("the target alone " + m, y.length(0, m), 1);
        }
    }

    @Says(under = "Promise 13", words = "4 MAKING, 5 STARTING, 6 STOPPING")
    static void promise13LengthOfEachEvent() {
        BoundChains x = new BoundChains();
        x.component(0);
        x.interceptor(1, 2, 0);
        x.interceptor(1, 4, 0);
        x.interceptor(1, 8, 0);
        x.list(0, -1, 0);
        for (int k = 0; k < 2; k++) {
            x.list(0, -1, 1);
        }
        deploy(x);
        Due.is("making", x.length(0, 4), 2);
        Due.is("starting", x.length(0, 5), 3);
        Due.is("stopping", x.length(0, 6), 1);
        Due.is("a method", x.length(0, 3), 1);
    }

    @Says(under = "Promise 13",
        words = "OPEN; NOTHING when there is no such component or m is not 0 .. 6.")
    static void promise13LengthOpenAndNothing() {
        BoundChains x = with(0, 0, 2);
        Due.is("open", x.length(0, 0), OPEN);
        Due.is("open and no component", x.length(2, 0), OPEN);
        Due.is("open and no method", x.length(0, 7), OPEN);
        deploy(x);
        for (int wrong : new int[] {LEAST, -1, 2, 3, 4, MOST}) {
            Due.is("no component " + wrong, x.length(wrong, 0), NOTHING);
        }
        for (int wrong : new int[] {LEAST, -2, -1, 7, 8, MOST}) {
            Due.is("no method " + wrong, x.length(1, wrong), NOTHING);
        }
        Due.is("the last component and event", x.length(1, 6), 1);
        x.clear();
        Due.is("open after clear", x.length(0, 0), OPEN);
    }

    @Says(under = "Promise 14", words = "`int element(int component, int m, int k)`: Element k (0 "
        + "the first) of that chain: i for interceptor i, 16 + d for decorator d, 32 for the "
        + "target.")
    static void promise14ElementNumbers() {
        BoundChains x = with(0, 8, 1);
        for (int d = 0; d < 4; d++) {
            x.decorator(1, 0, 15, 0);
        }
        x.list(0, 0, 7);
        x.list(0, 0, 0);
        deploy(x);
        Due.chainIs("the last and the first interceptor", x, 0, 0, 7, 0, 16, 17, 18, 19, 32);
        Due.chainIs("the target of an event", x, 0, 6, 32);
    }

    @Says(under = "Promise 14", words = "OPEN; NOTHING when there is no such component, m is not "
        + "0 .. 6, or there is no such element.")
    static void promise14ElementOpenAndNothing() {
        BoundChains x = with(0, 1, 2);
        x.list(1, -1, 0);
        Due.is("open", x.element(0, 0, 0), OPEN);
        Due.is("open and no component", x.element(2, 0, 0), OPEN);
        Due.is("open and no method", x.element(0, 7, 0), OPEN);
        Due.is("open and no element", x.element(0, 0, 9), OPEN);
        deploy(x);
        for (int wrong : new int[] {LEAST, -1, 2, 3, 4, MOST}) {
            Due.is("no component " + wrong, x.element(wrong, 0, 0), NOTHING);
        }
        for (int wrong : new int[] {LEAST, -2, -1, 7, 8, MOST}) {
            Due.is("no method " + wrong, x.element(1, wrong, 0), NOTHING);
        }
        for (int m = 0; m < 7; m++) {
            for (int wrong : new int[] {LEAST, -1, 2, 20, 21, 32, MOST}) {
                Due.is("no element " + wrong, x.element(1, m, wrong), NOTHING);
            }
            Due.is("a shorter chain has no element 1", x.element(0, m, 1), NOTHING);
            Due.is("a longer one has", x.element(1, m, 1), 32);
        }
        x.clear();
        Due.is("open after clear", x.element(0, 0, 0), OPEN);
    }

    @Says(under = "Promise 14", words = "there is no such element.")
    static void promise14ElementBehindTheLongestChain() {
        BoundChains x = with(1, 8, 1);
        for (int i = 0; i < 8; i++) {
            x.bindInterceptor(i, 0, 0);
        }
        for (int k = 0; k < 4; k++) {
            x.decorator(1, 0, 15, 0);
            x.list(0, -1, k);
            x.list(0, 0, k);
        }
        x.bind(0, -1, 0, 0);
        deploy(x);
        Due.is("the last", x.element(0, 0, 20), 32);
        Due.is("behind the last", x.element(0, 0, 21), NOTHING);
        Due.is("the last of an event", x.element(0, 4, 12), 32);
        Due.is("behind the last of an event", x.element(0, 4, 13), NOTHING);
    }
}
