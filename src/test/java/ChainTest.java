/** Promises 13 and 14: which elements a chain has, and in which order. */
final class ChainTest {
    private static final int NOTHING = BoundChains.NOTHING;
    private static final int OPEN = BoundChains.OPEN;

    public static void main(String[] args) {
        codes();
        kinds();
        boundByClosure();
        bindingsInForce();
        withoutBindings();
        priorities();
        decorators();
        orderOfParts();
        longest();
        Due.end();
    }

    private static void codes() {
        BoundChains x = new BoundChains();
        x.component(0);
        Due.is("length, open", x.length(0, 0), OPEN);
        Due.is("length of nothing, open", x.length(7, 7), OPEN);
        Due.is("element, open", x.element(0, 0, 0), OPEN);
        Due.is("element of nothing, open", x.element(7, 7, 7), OPEN);
        x.deploy();
        for (int wrong : new int[] {-1, 1, 4, Integer.MAX_VALUE, Integer.MIN_VALUE}) {
            Due.is("length of component " + wrong, x.length(wrong, 0), NOTHING);
            Due.is("element of component " + wrong, x.element(wrong, 0, 0), NOTHING);
            Due.is("element " + wrong, x.element(0, 0, wrong), NOTHING);
        }
        for (int wrong : new int[] {-1, 7, 8, Integer.MAX_VALUE, Integer.MIN_VALUE}) {
            Due.is("length of method " + wrong, x.length(0, wrong), NOTHING);
            Due.is("element of method " + wrong, x.element(0, wrong, 0), NOTHING);
        }
        for (int m = 0; m < 7; m++) {
            Due.chainIs("target " + m, x, 0, m, 32);
        }
    }

    private static void kinds() {
        BoundChains x = new BoundChains();
        x.binding(true);
        x.component(0);
        x.component(0);
        for (int kind = 1; kind <= 8; kind *= 2) {
            int i = x.interceptor(1, kind, 0);
            x.bindInterceptor(i, 0, 0);
            x.list(0, -1, i);
            x.list(0, 1, i);
        }
        x.bind(1, -1, 0, 0);
        x.deploy();
        Due.chainIs("listed around", x, 0, 0, 0, 32);
        Due.chainIs("listed around twice", x, 0, 1, 0, 0, 32);
        Due.chainIs("bound around", x, 1, 3, 0, 32);
        for (int event = 1; event < 4; event++) {
            Due.chainIs("listed for event " + event, x, 0, 3 + event, event, 32);
            Due.chainIs("bound for event " + event, x, 1, 3 + event, event, 32);
        }
    }

    private static void boundByClosure() {
        BoundChains x = new BoundChains();
        x.binding(true);
        x.binding(true);
        x.binding(false);
        x.carry(0, 1, 5);
        x.carry(1, 2, 77);
        int carrier = x.interceptor(1, 15, 0);
        x.bindInterceptor(carrier, 0, 1);
        int middle = x.interceptor(1, 15, 0);
        x.bindInterceptor(middle, 1, 5);
        int otherValue = x.interceptor(1, 15, 0);
        x.bindInterceptor(otherValue, 1, 4);
        int last = x.interceptor(1, 15, 0);
        x.bindInterceptor(last, 2, 8);
        int both = x.interceptor(1, 15, 0);
        x.bindInterceptor(both, 2, 9);
        x.bindInterceptor(both, 0, 1);
        int otherCarrier = x.interceptor(1, 15, 0);
        x.bindInterceptor(otherCarrier, 0, 2);
        x.component(0);
        x.bind(0, 0, 0, 1);
        x.bind(0, 1, 1, 5);
        x.bind(0, 2, 2, -1);
        x.bind(0, 3, 1, 4);
        x.deploy();
        Due.chainIs("all that is carried", x, 0, 0, carrier, middle, last, both, 32);
        Due.chainIs("from the middle", x, 0, 1, middle, last, 32);
        Due.chainIs("the last alone", x, 0, 2, last, 32);
        Due.chainIs("another value", x, 0, 3, otherValue, last, 32);
        Due.chainIs("a method's bindings are not its component's", x, 0, 4, 32);
    }

    /** A type that a method's bindings carry hides the component's binding of that type, too. */
    private static void bindingsInForce() {
        BoundChains x = new BoundChains();
        x.binding(true);
        x.binding(true);
        x.binding(true);
        x.carry(0, 1, 5);
        x.carry(2, 1, 6);
        int first = x.interceptor(1, 15, 0);
        x.bindInterceptor(first, 1, 5);
        int second = x.interceptor(1, 15, 0);
        x.bindInterceptor(second, 1, 6);
        int third = x.interceptor(1, 15, 0);
        x.bindInterceptor(third, 2, 3);
        int carrierAndCarried = x.interceptor(1, 15, 0);
        x.bindInterceptor(carrierAndCarried, 0, 1);
        x.component(0);
        x.bind(0, -1, 2, 3);
        x.bind(0, 0, 0, 1);
        x.bind(0, 1, 2, 4);
        x.bind(0, 2, 1, 7);
        x.deploy();
        Due.chainIs("hidden by what is carried", x, 0, 0, first, carrierAndCarried, 32);
        Due.chainIs("hidden by another value", x, 0, 1, second, 32);
        Due.chainIs("the carried one hidden", x, 0, 2, 32);
        Due.chainIs("the component's", x, 0, 3, second, third, 32);
        Due.chainIs("an event", x, 0, 4, second, third, 32);
    }

    private static void withoutBindings() {
        BoundChains x = new BoundChains();
        x.binding(true);
        x.interceptor(1, 15, 0);
        x.interceptor(0, 15, 0);
        x.bindInterceptor(1, 0, 0);
        x.interceptor(1, 15, 0);
        x.bindInterceptor(2, 0, 0);
        x.component(0);
        x.component(0);
        x.bind(1, -1, 0, 0);
        x.deploy();
        Due.chainIs("nothing in force", x, 0, 0, 32);
        Due.chainIs("no bindings, and not enabled", x, 1, 0, 2, 32);
        Due.chainIs("no bindings, and not enabled, for an event", x, 1, 4, 2, 32);
    }

    private static void priorities() {
        BoundChains x = new BoundChains();
        x.binding(false);
        int[] priorities = {9, 1, 5, 0, 5, 1, 8, 2};
        for (int i = 0; i < priorities.length; i++) {
            x.interceptor(priorities[i], 15, 0);
            x.bindInterceptor(i, 0, 0);
        }
        x.component(0);
        x.bind(0, -1, 0, 0);
        x.deploy();
        for (int m = 0; m < 7; m++) {
            Due.chainIs("by priority " + m, x, 0, m, 1, 5, 7, 2, 4, 6, 0, 32);
        }
    }

    private static void decorators() {
        BoundChains x = new BoundChains();
        x.decorator(9, 0, 15, 0);
        x.decorator(4, 3, 3, 0);
        x.decorator(4, 7, 9, 0);
        x.decorator(0, 0, 15, 0);
        x.component(1 + 8 + 128);
        x.component(1);
        x.component(126 - 8);
        x.deploy();
        Due.chainIs("all that are enabled", x, 0, 0, 17, 18, 16, 32);
        Due.chainIs("method 1", x, 0, 1, 17, 16, 32);
        Due.chainIs("method 2", x, 0, 2, 16, 32);
        Due.chainIs("method 3", x, 0, 3, 18, 16, 32);
        for (int event = 4; event < 7; event++) {
            Due.chainIs("event " + event, x, 0, event, 32);
        }
        Due.chainIs("one type", x, 1, 0, 16, 32);
        Due.chainIs("other types", x, 2, 0, 32);
    }

    private static void orderOfParts() {
        BoundChains x = new BoundChains();
        x.binding(true);
        x.interceptor(1, 15, 0);
        x.bindInterceptor(0, 0, 1);
        x.interceptor(0, 15, 0);
        x.interceptor(9, 15, 0);
        x.decorator(1, 0, 15, 0);
        x.component(1);
        x.bind(0, -1, 0, 1);
        x.list(0, 0, 1);
        x.list(0, 0, 0);
        x.list(0, 1, 1);
        x.list(0, -1, 2);
        x.list(0, -1, 2);
        x.flags(0, 1, 2);
        x.deploy();
        Due.chainIs("method", x, 0, 0, 2, 2, 1, 0, 0, 16, 32);
        Due.chainIs("alone: bound ones stay", x, 0, 1, 1, 0, 16, 32);
        Due.chainIs("event", x, 0, 4, 2, 2, 0, 32);
        Due.is("an element of another chain", x.element(0, 1, 2), 16);
        Due.is("an element of the first again", x.element(0, 0, 2), 1);
        x.invoke(0, 1, 0);
        Due.is("an element after an invocation", x.element(0, 4, 3), 32);
    }

    private static void longest() {
        BoundChains x = new BoundChains();
        x.binding(false);
        for (int i = 0; i < 8; i++) {
            x.interceptor(1, 15, 0);
            x.bindInterceptor(i, 0, 0);
        }
        for (int d = 0; d < 4; d++) {
            x.decorator(1, 0, 15, 0);
        }
        x.component(1);
        x.bind(0, -1, 0, 0);
        for (int k = 0; k < 4; k++) {
            x.list(0, -1, 7 - k);
            x.list(0, 2, k);
        }
        x.deploy();
        Due.chainIs("longest", x, 0, 2,
            7, 6, 5, 4, 0, 1, 2, 3, 0, 1, 2, 3, 4, 5, 6, 7, 16, 17, 18, 19, 32);
        Due.is("invoke the longest", x.invoke(0, 2, 1), 21);
        Due.ended("the longest", x, 5, 0);
    }
}
