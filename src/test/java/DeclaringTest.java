/** Promises 1 to 11: a new object, clear, and the declaring calls with their codes. */
final class DeclaringTest {
    private static final int CLOSED = BoundChains.CLOSED;
    private static final int NOTHING = BoundChains.NOTHING;
    private static final int BAD = BoundChains.BAD;
    private static final int FULL = BoundChains.FULL;
    private static final int OPEN = BoundChains.OPEN;
    private static final int[] FAR = {Integer.MIN_VALUE, -2, Integer.MAX_VALUE};

    public static void main(String[] args) {
        constants();
        newObject();
        newObjectsShareNothing();
        clearForgetsDeclarations();
        clearForgetsWhatNumbersHad();
        clearForgetsTheInvocation();
        binding();
        carry();
        interceptor();
        decorator();
        component();
        bindInterceptor();
        bind();
        list();
        flags();
        closed();
        wrongBeforeFull();
        Due.end();
    }

    private static void constants() {
        Due.is("CLOSED", CLOSED, -2);
        Due.is("NOTHING", NOTHING, -3);
        Due.is("BAD", BAD, -4);
        Due.is("FULL", FULL, -5);
        Due.is("OPEN", OPEN, -6);
    }

    private static void hasNothing(String what, BoundChains x) {
        Due.is(what + ": length", x.length(0, 0), OPEN);
        Due.is(what + ": element", x.element(0, 0, 0), OPEN);
        Due.is(what + ": invoke", x.invoke(0, 0, 0), OPEN);
        Due.ended(what, x, 0, 0);
        Due.logIs(what, x);
        Due.is(what + ": carry", x.carry(0, 0, 0), NOTHING);
        Due.is(what + ": bindInterceptor", x.bindInterceptor(0, 0, 0), NOTHING);
        Due.is(what + ": bind", x.bind(0, 0, 0, 0), NOTHING);
        Due.is(what + ": list", x.list(0, 0, 0), NOTHING);
        Due.is(what + ": flags", x.flags(0, 0, 0), NOTHING);
    }

    private static void newObject() {
        BoundChains x = new BoundChains();
        hasNothing("new", x);
        Due.is("deploy nothing", x.deploy(), 0);
        Due.is("length of nothing", x.length(0, 0), NOTHING);
        Due.is("element of nothing", x.element(0, 0, 0), NOTHING);
        Due.is("invoke nothing", x.invoke(0, 0, 0), NOTHING);
    }

    private static void newObjectsShareNothing() {
        BoundChains one = new BoundChains();
        BoundChains other = new BoundChains();
        Due.is("one's component", one.component(0), 0);
        Due.is("one's deploy", one.deploy(), 0);
        Due.is("one's invoke", one.invoke(0, 1, 5), 1);
        hasNothing("other", other);
        Due.is("other's component", other.component(0), 0);
        Due.is("other's binding", other.binding(true), 0);
    }

    private static void clearForgetsDeclarations() {
        BoundChains x = new BoundChains();
        for (int k = 0; k < 8; k++) {
            x.binding(true);
            x.interceptor(1, 15, 0);
            x.decorator(1, 0, 15, 0);
            x.component(255);
        }
        for (int k = 0; k < 16; k++) {
            x.carry(0, 1, 3);
        }
        x.clear();
        hasNothing("cleared", x);
        Due.is("deploy after clear", x.deploy(), 0);
        x.clear();
        Due.is("binding after clear", x.binding(true), 0);
        Due.is("interceptor after clear", x.interceptor(1, 15, 0), 0);
        Due.is("decorator after clear", x.decorator(1, 0, 15, 0), 0);
        Due.is("component after clear", x.component(1), 0);
        Due.is("carry after clear", x.carry(0, 0, 0), 0);
    }

    private static void clearForgetsWhatNumbersHad() {
        BoundChains x = new BoundChains();
        x.binding(true);
        x.interceptor(1, 15, 4);
        x.decorator(1, 0, 15, 4);
        x.component(1);
        for (int k = 0; k < 4; k++) {
            x.bindInterceptor(0, 0, 0);
            for (int m = -1; m < 4; m++) {
                x.bind(0, m, 0, 0);
                x.list(0, m, 0);
            }
        }
        x.carry(0, 0, 0);
        for (int m = 0; m < 4; m++) {
            x.flags(0, m, 6);
        }
        Due.is("deploy a full one", x.deploy(), 0);
        x.clear();
        x.binding(true);
        x.component(1);
        x.interceptor(1, 15, 0);
        x.bindInterceptor(0, 0, 0);
        Due.is("deploy without bindings", x.deploy(), 0);
        for (int m = 0; m < 7; m++) {
            Due.chainIs("without bindings " + m, x, 0, m, 32);
        }
        x.clear();
        x.binding(true);
        x.component(1);
        x.interceptor(1, 15, 0);
        Due.is("room in a component", x.bind(0, -1, 0, 5), 0);
        Due.is("deploy the second", x.deploy(), 0);
        for (int m = 0; m < 7; m++) {
            Due.chainIs("second " + m, x, 0, m, 32);
        }
        Due.is("nothing fails any more", x.invoke(0, 0, 2), 1);
        Due.ended("nothing fails any more", x, 6, 0);
        x.clear();
        x.binding(false);
        x.component(1);
        x.interceptor(1, 15, 0);
        x.bind(0, -1, 0, 5);
        Due.is("room for bindings", x.bindInterceptor(0, 0, 7), 0);
        x.list(0, -1, 0);
        Due.is("deploy the third", x.deploy(), 0);
        Due.chainIs("not alone any more", x, 0, 0, 0, 0, 32);
    }

    private static void clearForgetsTheInvocation() {
        BoundChains x = new BoundChains();
        x.component(0);
        x.flags(0, 1, 4);
        x.deploy();
        x.invoke(0, 0, 5);
        Due.ended("before clear", x, 15, 0);
        x.clear();
        hasNothing("after a result", x);
        x.component(0);
        x.flags(0, 1, 4);
        x.deploy();
        x.invoke(0, 1, 5);
        Due.ended("before the second clear", x, 0, 34);
        x.clear();
        hasNothing("after an error", x);
    }

    private static void binding() {
        BoundChains x = new BoundChains();
        for (int b = 0; b < 8; b++) {
            Due.is("binding " + b, x.binding(b % 2 == 0), b);
        }
        Due.is("a ninth binding", x.binding(true), FULL);
        Due.is("a ninth binding again", x.binding(false), FULL);
        Due.is("the eighth carries", x.carry(7, 7, 0), 0);
        Due.is("there is no ninth", x.carry(8, 7, 0), NOTHING);
        x.component(0);
        x.bind(0, 1, 1, 5);
        x.bind(0, 1, 1, 6);
        Due.is("values that do not matter", x.deploy(), 0);
        BoundChains y = new BoundChains();
        y.binding(true);
        y.component(0);
        y.bind(0, 1, 0, 5);
        y.bind(0, 1, 0, 6);
        Due.is("values that matter", y.deploy(), 202);
    }

    private static void carry() {
        BoundChains x = new BoundChains();
        x.binding(true);
        x.binding(false);
        for (int wrong : new int[] {-1, 2, 8, Integer.MAX_VALUE, Integer.MIN_VALUE}) {
            Due.is("carry of " + wrong, x.carry(wrong, 0, 1), NOTHING);
            Due.is("carry to " + wrong, x.carry(0, wrong, 1), NOTHING);
        }
        for (int k = 0; k < 16; k++) {
            Due.is("carry " + k, x.carry(k % 2, 1, k), 0);
        }
        Due.is("carry a seventeenth", x.carry(0, 0, 1), FULL);
        Due.is("carry a seventeenth, of another", x.carry(1, 1, 1), FULL);
        x.component(0);
        x.bind(0, 0, 0, 3);
        Due.is("the refused one is not there", x.deploy(), 0);
    }

    private static void interceptor() {
        BoundChains x = new BoundChains();
        int[][] wrong = {{-1, 0, 0}, {10, 0, 0}, {0, -1, 0}, {0, 16, 0}, {0, 0, -1}, {0, 0, 6}};
        for (int[] w : wrong) {
            Due.is("bad interceptor", x.interceptor(w[0], w[1], w[2]), BAD);
        }
        for (int far : FAR) {
            Due.is("priority " + far, x.interceptor(far, 1, 1), BAD);
            Due.is("kinds " + far, x.interceptor(1, far, 1), BAD);
            Due.is("behaviour " + far, x.interceptor(1, 1, far), BAD);
        }
        Due.is("least", x.interceptor(0, 0, 0), 0);
        Due.is("most", x.interceptor(9, 15, 5), 1);
        for (int i = 2; i < 8; i++) {
            Due.is("interceptor " + i, x.interceptor(1, 1, 1), i);
        }
        Due.is("a ninth interceptor", x.interceptor(1, 1, 1), FULL);
        x.binding(true);
        x.component(0);
        Due.is("the eighth is there", x.list(0, 0, 7), 0);
        Due.is("the ninth is not", x.list(0, 0, 8), NOTHING);
        x.deploy();
        Due.chainIs("no bindings of their own", x, 0, 1, 32);
    }

    private static void decorator() {
        BoundChains x = new BoundChains();
        int[][] wrong = {{-1, 0, 0, 0}, {10, 0, 0, 0}, {0, -1, 0, 0}, {0, 8, 0, 0},
            {0, 0, -1, 0}, {0, 0, 16, 0}, {0, 0, 0, -1}, {0, 0, 0, 6}};
        for (int[] w : wrong) {
            Due.is("bad decorator", x.decorator(w[0], w[1], w[2], w[3]), BAD);
        }
        for (int far : FAR) {
            Due.is("priority " + far, x.decorator(far, 1, 1, 1), BAD);
            Due.is("type " + far, x.decorator(1, far, 1, 1), BAD);
            Due.is("methods " + far, x.decorator(1, 1, far, 1), BAD);
            Due.is("behaviour " + far, x.decorator(1, 1, 1, far), BAD);
        }
        Due.is("least", x.decorator(0, 0, 0, 0), 0);
        Due.is("most", x.decorator(9, 7, 15, 5), 1);
        Due.is("decorator 2", x.decorator(1, 1, 1, 1), 2);
        Due.is("decorator 3", x.decorator(1, 1, 1, 1), 3);
        Due.is("a fifth decorator", x.decorator(1, 1, 1, 1), FULL);
        x.component(128);
        x.deploy();
        Due.chainIs("type 7", x, 0, 3, 17, 32);
    }

    private static void component() {
        BoundChains x = new BoundChains();
        Due.is("types -1", x.component(-1), BAD);
        Due.is("types 256", x.component(256), BAD);
        for (int far : FAR) {
            Due.is("types " + far, x.component(far), BAD);
        }
        Due.is("no type", x.component(0), 0);
        Due.is("all types", x.component(255), 1);
        Due.is("component 2", x.component(1), 2);
        Due.is("component 3", x.component(2), 3);
        Due.is("a fifth component", x.component(0), FULL);
        x.deploy();
        Due.is("the fourth", x.length(3, 0), 1);
        Due.is("no fifth", x.length(4, 0), NOTHING);
    }

    private static void bindInterceptor() {
        BoundChains x = new BoundChains();
        x.binding(true);
        x.binding(true);
        x.interceptor(1, 1, 0);
        x.interceptor(1, 1, 0);
        for (int wrong : new int[] {-1, 2, 8, Integer.MAX_VALUE, Integer.MIN_VALUE}) {
            Due.is("no interceptor " + wrong, x.bindInterceptor(wrong, 0, 0), NOTHING);
            Due.is("no type " + wrong, x.bindInterceptor(0, wrong, 0), NOTHING);
        }
        for (int k = 0; k < 4; k++) {
            Due.is("binding " + k, x.bindInterceptor(1, 0, Integer.MIN_VALUE), 0);
        }
        Due.is("a fifth", x.bindInterceptor(1, 1, 0), FULL);
        Due.is("the other has room", x.bindInterceptor(0, 1, 3), 0);
        x.component(0);
        x.bind(0, 2, 0, Integer.MIN_VALUE);
        x.deploy();
        Due.chainIs("bound", x, 0, 2, 1, 32);
    }

    private static void bind() {
        BoundChains x = new BoundChains();
        x.binding(true);
        x.component(0);
        x.component(0);
        for (int wrong : new int[] {-1, 2, 4, Integer.MAX_VALUE, Integer.MIN_VALUE}) {
            Due.is("no component " + wrong, x.bind(wrong, 0, 0, 0), NOTHING);
        }
        for (int wrong : new int[] {-2, 4, 5, Integer.MAX_VALUE, Integer.MIN_VALUE}) {
            Due.is("no method " + wrong, x.bind(0, wrong, 0, 0), NOTHING);
        }
        for (int wrong : new int[] {-1, 1, 8, Integer.MAX_VALUE, Integer.MIN_VALUE}) {
            Due.is("no type " + wrong, x.bind(0, 0, wrong, 0), NOTHING);
        }
        for (int m = -1; m < 4; m++) {
            for (int k = 0; k < 4; k++) {
                Due.is("binding of " + m, x.bind(1, m, 0, m), 0);
            }
            Due.is("a fifth of " + m, x.bind(1, m, 0, m), FULL);
        }
        x.interceptor(1, 15, 0);
        x.bindInterceptor(0, 0, 3);
        x.interceptor(1, 15, 0);
        x.bindInterceptor(1, 0, -1);
        x.deploy();
        Due.chainIs("method 3", x, 1, 3, 0, 32);
        Due.chainIs("method 2", x, 1, 2, 32);
        Due.chainIs("event", x, 1, 5, 1, 32);
        Due.chainIs("the other's", x, 0, 3, 32);
    }

    private static void list() {
        BoundChains x = new BoundChains();
        x.component(0);
        x.component(0);
        x.interceptor(0, 15, 0);
        x.interceptor(3, 15, 0);
        for (int wrong : new int[] {-1, 2, 4, Integer.MAX_VALUE, Integer.MIN_VALUE}) {
            Due.is("no component " + wrong, x.list(wrong, 0, 0), NOTHING);
            Due.is("no interceptor " + wrong, x.list(0, 0, wrong), NOTHING);
        }
        for (int wrong : new int[] {-2, 4, 5, Integer.MAX_VALUE, Integer.MIN_VALUE}) {
            Due.is("no method " + wrong, x.list(0, wrong, 0), NOTHING);
        }
        for (int m = -1; m < 4; m++) {
            for (int k = 0; k < 4; k++) {
                Due.is("list of " + m, x.list(1, m, k % 2), 0);
            }
            Due.is("a fifth of " + m, x.list(1, m, 1), FULL);
        }
        x.deploy();
        Due.chainIs("both lists", x, 1, 3, 0, 1, 0, 1, 0, 1, 0, 1, 32);
        Due.chainIs("the component's list", x, 1, 6, 0, 1, 0, 1, 32);
        Due.chainIs("the other's", x, 0, 3, 32);
    }

    private static void flags() {
        BoundChains x = new BoundChains();
        x.component(0);
        x.component(0);
        for (int wrong : new int[] {-1, 2, 4, Integer.MAX_VALUE, Integer.MIN_VALUE}) {
            Due.is("no component " + wrong, x.flags(wrong, 0, 0), NOTHING);
        }
        for (int wrong : new int[] {-2, -1, 4, 5, Integer.MAX_VALUE, Integer.MIN_VALUE}) {
            Due.is("no method " + wrong, x.flags(0, wrong, 0), NOTHING);
        }
        for (int wrong : new int[] {-1, 8, Integer.MAX_VALUE, Integer.MIN_VALUE}) {
            Due.is("bad flags " + wrong, x.flags(0, 0, wrong), BAD);
            Due.is("nothing before bad " + wrong, x.flags(0, 4, wrong), NOTHING);
            Due.is("nothing before bad too " + wrong, x.flags(2, 0, wrong), NOTHING);
        }
        x.interceptor(0, 1, 0);
        x.list(0, -1, 0);
        Due.is("final and failing", x.flags(0, 0, 5), 0);
        Due.is("bad changes nothing", x.flags(0, 0, 8), BAD);
        Due.is("final", x.deploy(), 300);
        Due.is("all", x.flags(0, 0, 7), 0);
        Due.is("alone instead", x.flags(0, 0, 2), 0);
        Due.is("failing", x.flags(0, 1, 4), 0);
        Due.is("no flag", x.flags(0, 2, 7), 0);
        Due.is("no flag any more", x.flags(0, 2, 0), 0);
        for (int what = 0; what < 4; what++) {
            Due.is("not failing", x.flags(1, what, what), 0);
        }
        Due.is("deploy", x.deploy(), 0);
        for (int what = 0; what < 4; what++) {
            x.invoke(1, what, 1);
            Due.ended("not failing with " + what, x, 3 + what, 0);
        }
        Due.chainIs("alone", x, 0, 0, 32);
        x.invoke(0, 0, 1);
        Due.ended("alone", x, 3, 0);
        Due.chainIs("failing", x, 0, 1, 0, 32);
        x.invoke(0, 1, 1);
        Due.ended("failing", x, 0, 34);
        Due.chainIs("no flag", x, 0, 2, 0, 32);
        x.invoke(0, 2, 1);
        Due.ended("no flag", x, 5, 0);
    }

    /** CLOSED is tested first, whatever else is wrong, and nothing is changed. */
    private static void closed() {
        BoundChains x = new BoundChains();
        x.binding(true);
        x.component(1);
        x.interceptor(1, 15, 0);
        Due.is("deploy", x.deploy(), 0);
        Due.is("binding", x.binding(true), CLOSED);
        Due.is("carry", x.carry(0, 0, 1), CLOSED);
        Due.is("carry of nothing", x.carry(-1, 9, 1), CLOSED);
        Due.is("interceptor", x.interceptor(1, 1, 1), CLOSED);
        Due.is("bad interceptor", x.interceptor(-1, 1, 1), CLOSED);
        Due.is("decorator", x.decorator(1, 0, 15, 1), CLOSED);
        Due.is("bad decorator", x.decorator(-1, 1, 1, 1), CLOSED);
        Due.is("component", x.component(0), CLOSED);
        Due.is("bad component", x.component(-1), CLOSED);
        Due.is("bindInterceptor", x.bindInterceptor(0, 0, 0), CLOSED);
        Due.is("bindInterceptor of nothing", x.bindInterceptor(5, 5, 0), CLOSED);
        Due.is("bind", x.bind(0, 0, 0, 0), CLOSED);
        Due.is("bind of nothing", x.bind(5, 5, 5, 0), CLOSED);
        Due.is("list", x.list(0, 0, 0), CLOSED);
        Due.is("list of nothing", x.list(5, 5, 5), CLOSED);
        Due.is("flags", x.flags(0, 0, 4), CLOSED);
        Due.is("flags of nothing", x.flags(5, 5, 5), CLOSED);
        Due.is("bad flags", x.flags(0, 0, 8), CLOSED);
        Due.is("deploy again", x.deploy(), CLOSED);
        Due.chainIs("unchanged", x, 0, 0, 32);
        x.invoke(0, 0, 1);
        Due.ended("unchanged", x, 3, 0);
        Due.is("no second component", x.length(1, 0), NOTHING);
    }

    private static void wrongBeforeFull() {
        BoundChains x = new BoundChains();
        for (int k = 0; k < 8; k++) {
            x.binding(true);
            x.interceptor(1, 1, 1);
            x.decorator(1, 1, 1, 1);
            x.component(1);
        }
        for (int k = 0; k < 16; k++) {
            x.carry(0, 0, 1);
            x.bindInterceptor(0, 0, 1);
            x.bind(0, 0, 0, 1);
            x.list(0, 0, 0);
        }
        Due.is("carry", x.carry(8, 0, 1), NOTHING);
        Due.is("interceptor", x.interceptor(1, 16, 1), BAD);
        Due.is("decorator", x.decorator(1, 8, 1, 1), BAD);
        Due.is("component", x.component(256), BAD);
        Due.is("bindInterceptor", x.bindInterceptor(0, 8, 1), NOTHING);
        Due.is("bind", x.bind(0, 0, 8, 1), NOTHING);
        Due.is("list", x.list(0, 0, 8), NOTHING);
    }
}
