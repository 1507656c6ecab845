/** The sentences on what can be declared, how much of it, and what each declaring call refuses. */
final class DeclaringSentencesTest {
    private static final int CLOSED = BoundChains.CLOSED;
    private static final int NOTHING = BoundChains.NOTHING;
    private static final int BAD = BoundChains.BAD;
    private static final int FULL = BoundChains.FULL;
    private static final int OPEN = BoundChains.OPEN;
    private static final int LEAST = Integer.MIN_VALUE;
    private static final int MOST = Integer.MAX_VALUE;

    public static void main(String[] args) {
        Sentences.test(DeclaringSentencesTest.class);
    }

    private static BoundChains with(int types, int interceptors, int components) {
        BoundChains x = new BoundChains();
        for (int b = 0; b < types; b++) {
            x.binding(true);
        }
        for (int i = 0; i < interceptors; i++) {
            x.interceptor(1, 15, 0);
        }
        for (int c = 0; c < components; c++) {
            x.component(0);
        }
        return x;
    }

    private static BoundChains deployed(BoundChains x) {
        Due.is("deploy", x.deploy(), 0);
        return x;
    }

    @Says(under = "Terms", words = "BINDING TYPES have numbers 0, 1, .. (at most 8).")
    static void termsBindingTypesAtMostEight() {
        BoundChains x = new BoundChains();
        for (int b = 0; b < 8; b++) {
            Due.is("type " + b + " is not there yet", x.carry(b, b, 0), NOTHING);
            Due.is("type " + b, x.binding(b % 2 == 0), b);
            Due.is("type " + b + " is there", x.carry(b, b, 0), 0);
        }
        Due.is("a ninth type", x.binding(true), FULL);
        Due.is("carry of a ninth type", x.carry(8, 0, 0), NOTHING);
        Due.is("carry to a ninth type", x.carry(0, 8, 0), NOTHING);
    }

    @Says(under = "Terms", words = "A BINDING is a binding type and a VALUE, an int;")
    static void termsEveryIntIsAValue() {
        int[] values = {LEAST, LEAST + 1, -1, 0, 1, MOST - 1, MOST};
        BoundChains x = with(2, 7, 2);
        for (int k = 0; k < 7; k++) {
            Due.is("interceptor " + k, x.bindInterceptor(k, 1, values[k]), 0);
            Due.is("method " + k, x.bind(k / 4, k % 4, 1, values[k]), 0);
        }
        deployed(x);
        for (int k = 0; k < 7; k++) {
            Due.chainIs("value " + values[k], x, k / 4, k % 4, k, 32);
        }
        for (int value : values) {
            BoundChains y = with(2, 2, 1);
            y.carry(0, 1, value);
            y.bind(0, -1, 0, 5);
            y.bindInterceptor(0, 1, value);
            y.bindInterceptor(1, 1, value + 1);
            deployed(y);
            Due.chainIs("carried value " + value, y, 0, 0, 0, 32);
        }
    }

    @Says(under = "Terms",
        words = "for a type whose value does not MATTER the value is 0, whatever is given.")
    static void termsAValueThatDoesNotMatterIsZero() {
        for (int value : new int[] {LEAST, -1, 0, 1, MOST}) {
            BoundChains x = new BoundChains();
            x.binding(false);
            x.binding(true);
            x.interceptor(1, 15, 0);
            x.interceptor(1, 15, 0);
            x.component(0);
            x.bindInterceptor(0, 0, value);
            x.bindInterceptor(0, 0, value + 1);
            x.bindInterceptor(1, 0, 0);
            x.bind(0, 0, 0, value);
            x.bind(0, 0, 0, value - 1);
            x.carry(1, 0, value);
            x.carry(1, 0, value + 7);
            x.bind(0, 1, 1, value);
            x.bind(0, -1, 0, value);
            deployed(x);
            Due.chainIs("given to a method: " + value, x, 0, 0, 0, 1, 32);
            Due.chainIs("carried: " + value, x, 0, 1, 0, 1, 32);
            Due.chainIs("given to a component: " + value, x, 0, 4, 0, 1, 32);
        }
    }

    @Says(under = "Terms", words = "INTERCEPTORS 0, 1, .. (at most 8) have each a priority 0 .. 9 "
        + "(with 0 it is not ENABLED),")
    static void termsInterceptorsAtMostEightNotEnabledWithZero() {
        BoundChains x = with(1, 0, 2);
        int[] priorities = {0, 1, 2, 5, 8, 9, 0, 9};
        for (int i = 0; i < 8; i++) {
            Due.is("interceptor " + i, x.interceptor(priorities[i], 15, 0), i);
            Due.is("binding of " + i, x.bindInterceptor(i, 0, 3), 0);
        }
        Due.is("a ninth interceptor", x.interceptor(1, 15, 0), FULL);
        x.bind(0, -1, 0, 3);
        x.list(1, -1, 0);
        deployed(x);
        Due.chainIs("those with 0 are not bound", x, 0, 0, 1, 2, 3, 4, 5, 7, 32);
        Due.chainIs("nor for an event", x, 0, 6, 1, 2, 3, 4, 5, 7, 32);
        Due.chainIs("but can be listed", x, 1, 0, 0, 32);
    }

    @Says(under = "Terms", words = "the set of KINDS that it takes part in (the sum of some of "
        + "1 AROUND, 2 MAKING, 4 STARTING, 8 STOPPING),")
    static void termsEverySumOfKinds() {
        for (int kinds = 0; kinds < 16; kinds++) {
            BoundChains x = with(1, 0, 2);
            x.interceptor(1, kinds, 0);
            x.bindInterceptor(0, 0, 0);
            x.bind(0, -1, 0, 0);
            x.list(1, -1, 0);
            deployed(x);
            int[] kindOf = {1, 1, 1, 1, 2, 4, 8};
            for (int m = 0; m < 7; m++) {
                int due = (kinds & kindOf[m]) == 0 ? 1 : 2;
                Due.is("bound, kinds " + kinds + ", " + m, x.length(0, m), due);
                Due.is("listed, kinds " + kinds + ", " + m, x.length(1, m), due);
            }
        }
    }

    @Says(under = "Terms", words = "a BEHAVIOUR, and bindings, at most 4.")
    static void termsBindingsOfAnInterceptorAtMostFour() {
        BoundChains x = with(8, 2, 1);
        for (int b = 0; b < 4; b++) {
            Due.is("binding " + b, x.bindInterceptor(0, b, 0), 0);
        }
        Due.is("a fifth", x.bindInterceptor(0, 4, 0), FULL);
        for (int b = 0; b < 3; b++) {
            x.bind(0, 0, b, 0);
            x.bind(0, 1, b, 0);
        }
        x.bind(0, 1, 3, 0);
        deployed(x);
        Due.chainIs("three of four are not enough", x, 0, 0, 32);
        Due.chainIs("four are, the fifth is not asked for", x, 0, 1, 0, 32);
    }

    @Says(under = "Terms", words = "DECORATORS 0, 1, .. (at most 4) have each a priority 0 .. 9 "
        + "(with 0 not enabled),")
    static void termsDecoratorsAtMostFourNotEnabledWithZero() {
        BoundChains x = with(0, 0, 0);
        x.component(1);
        int[] priorities = {9, 0, 1, 5};
        for (int d = 0; d < 4; d++) {
            Due.is("decorator " + d, x.decorator(priorities[d], 0, 15, 0), d);
        }
        Due.is("a fifth decorator", x.decorator(1, 0, 15, 0), FULL);
        deployed(x);
        Due.chainIs("the one with 0 is not there", x, 0, 0, 18, 19, 16, 32);
    }

    @Says(under = "Terms", words = "a type number 0 .. 7,")
    static void termsEveryTypeNumberOfADecorator() {
        for (int type = 0; type < 8; type++) {
            BoundChains x = new BoundChains();
            Due.is("decorator of type " + type, x.decorator(1, type, 15, 0), 0);
            x.component(1 << type);
            x.component(255 - (1 << type));
            deployed(x);
            Due.chainIs("a component of type " + type, x, 0, 0, 16, 32);
            Due.chainIs("a component of all but " + type, x, 1, 0, 32);
        }
    }

    @Says(under = "Terms", words = "the set of methods that it decorates (the sum of 2^m over "
        + "them), and a behaviour.")
    static void termsEverySumOfDecoratedMethods() {
        for (int methods = 0; methods < 16; methods++) {
            BoundChains x = new BoundChains();
            x.component(1);
            Due.is("decorator of " + methods, x.decorator(1, 0, methods, 0), 0);
            deployed(x);
            for (int m = 0; m < 4; m++) {
                Due.is("methods " + methods + ", " + m, x.length(0, m),
                    (methods >> m) % 2 == 0 ? 1 : 2);
            }
        }
    }

    @Says(under = "Terms", words = "COMPONENTS 0, 1, .. (at most 4) have each a set of TYPES (the "
        + "sum of 2^t over type numbers t 0 .. 7),")
    static void termsComponentsAtMostFourEverySumOfTypes() {
        for (int types = 0; types < 256; types += 4) {
            for (int t = 0; t < 8; t++) {
                BoundChains x = new BoundChains();
                x.decorator(1, t, 15, 0);
                for (int c = 0; c < 4; c++) {
                    Due.is("component " + c, x.component(types + c), c);
                }
                Due.is("a fifth component", x.component(types), FULL);
                deployed(x);
                for (int c = 0; c < 4; c++) {
                    Due.is("types " + (types + c) + ", type " + t, x.length(c, 0),
                        (types + c >> t) % 2 == 0 ? 1 : 2);
                }
            }
        }
    }

    @Says(under = "Terms", words = "METHODS 0 .. 3, bindings of their own, at most 4, and for each "
        + "method bindings, at most 4;")
    static void termsBindingsOfAComponentAndOfAMethodAtMostFour() {
        BoundChains x = with(8, 5, 1);
        for (int m = -1; m < 4; m++) {
            for (int b = 0; b < 4; b++) {
                Due.is("binding " + b + " of " + m, x.bind(0, m, b, m), 0);
            }
            Due.is("a fifth of " + m, x.bind(0, m, 4, m), FULL);
        }
        for (int b = 0; b < 5; b++) {
            x.bindInterceptor(b, b, b == 4 ? -1 : b % 2 == 0 ? 3 : -1);
        }
        deployed(x);
        Due.chainIs("all four of the last method", x, 0, 3, 0, 2, 32);
        Due.chainIs("all four of the component", x, 0, 4, 1, 3, 32);
        Due.chainIs("none of another method, and not the fifth", x, 0, 1, 32);
    }

    @Says(under = "Terms", words = "a LIST of interceptors of their own, at most 4, and one for "
        + "each method, at most 4 (an interceptor may stand in a list several times);")
    static void termsListsAtMostFourTheSameSeveralTimes() {
        BoundChains x = with(0, 6, 1);
        for (int m = -1; m < 4; m++) {
            for (int k = 0; k < 4; k++) {
                Due.is("list of " + m, x.list(0, m, m + 1), 0);
            }
            Due.is("a fifth of " + m, x.list(0, m, 5), FULL);
        }
        deployed(x);
        for (int m = 0; m < 4; m++) {
            int i = m + 1;
            Due.chainIs("four times each " + m, x, 0, m, 0, 0, 0, 0, i, i, i, i, 32);
        }
        Due.chainIs("four times for an event", x, 0, 5, 0, 0, 0, 0, 32);
    }

    @Says(under = "Terms",
        words = "and for each method three flags: FINAL, ALONE, FAILING, all off at first.")
    static void termsFlagsAreOffAtFirst() {
        BoundChains x = with(0, 1, 4);
        for (int c = 0; c < 4; c++) {
            x.list(c, -1, 0);
        }
        Due.is("no method is final", x.deploy(), 0);
        for (int c = 0; c < 4; c++) {
            for (int m = 0; m < 4; m++) {
                Due.chainIs("not alone " + m, x, c, m, 0, 32);
                x.invoke(c, m, 2);
                Due.ended("not failing " + m, x, 6 + m, 0);
            }
        }
    }

    @Says(under = "Promise 1", words = "`BoundChains()`: Nothing declared.")
    static void promise1NothingDeclared() {
        BoundChains x = new BoundChains();
        Due.is("no binding type to carry", x.carry(0, 0, 0), NOTHING);
        Due.is("no interceptor or type", x.bindInterceptor(0, 0, 0), NOTHING);
        Due.is("no component to bind", x.bind(0, -1, 0, 0), NOTHING);
        Due.is("no component to list", x.list(0, -1, 0), NOTHING);
        Due.is("no component with flags", x.flags(0, 0, 0), NOTHING);
        Due.is("not deployed: length", x.length(0, 0), OPEN);
        Due.is("not deployed: element", x.element(0, 0, 0), OPEN);
        Due.is("not deployed: invoke", x.invoke(0, 0, 0), OPEN);
        Due.ended("no invocation", x, 0, 0);
        Due.logIs("no invocation", x);
        Due.is("the first type", x.binding(true), 0);
        Due.is("the first interceptor", x.interceptor(0, 0, 0), 0);
        Due.is("the first decorator", x.decorator(0, 0, 0, 0), 0);
        Due.is("the first component", x.component(0), 0);
    }

    @Says(under = "Promise 1", words = "Nothing declared.")
    static void promise1NothingDeclaredDeploys() {
        BoundChains x = deployed(new BoundChains());
        for (int c = -1; c < 5; c++) {
            Due.is("no component " + c + ": length", x.length(c, 0), NOTHING);
            Due.is("no component " + c + ": element", x.element(c, 0, 0), NOTHING);
            Due.is("no component " + c + ": invoke", x.invoke(c, 0, 0), NOTHING);
        }
        Due.is("deployed already", x.deploy(), CLOSED);
    }

    /** Everything there can be, all of it deployed, and an invocation that fills the log. */
    private static BoundChains filled() {
        BoundChains x = with(8, 0, 0);
        for (int k = 0; k < 16; k++) {
            x.carry(k % 8, (k + 1) % 8, 5);
        }
        for (int i = 0; i < 8; i++) {
            x.interceptor(1, 15, 1);
        }
        for (int d = 0; d < 4; d++) {
            x.decorator(1, 0, 15, 1);
        }
        for (int c = 0; c < 4; c++) {
            x.component(255);
        }
        for (int k = 0; k < 4; k++) {
            for (int i = 0; i < 8; i++) {
                x.bindInterceptor(i, k, 5);
            }
            for (int c = 0; c < 4; c++) {
                for (int m = -1; m < 4; m++) {
                    x.bind(c, m, k, 5);
                    x.list(c, m, 0);
                }
            }
        }
        for (int c = 0; c < 4; c++) {
            for (int m = 0; m < 4; m++) {
                x.flags(c, m, m == 0 ? 2 : 6);
            }
        }
        return x;
    }

    @Says(under = "Promise 2", words = "`void clear()`: All is as it was at first (nothing is "
        + "deployed); the log is empty.")
    static void promise2ClearAllThatWasFullHasRoom() {
        BoundChains x = deployed(filled());
        Due.is("a full log", x.invoke(0, 0, 1), 64);
        x.clear();
        Due.logIs("cleared", x);
        Due.is("log 63", x.log(63), NOTHING);
        Due.ended("cleared", x, 0, 0);
        Due.is("not deployed", x.length(0, 0), OPEN);
        for (int k = 0; k < 8; k++) {
            Due.is("no type yet", x.carry(k, 0, 0), NOTHING);
            Due.is("type", x.binding(true), k);
            Due.is("interceptor", x.interceptor(1, 15, 0), k);
            Due.is("decorator", x.decorator(1, 0, 15, 0), k < 4 ? k : FULL);
            Due.is("component", x.component(1), k < 4 ? k : FULL);
        }
        for (int k = 0; k < 17; k++) {
            Due.is("carry " + k, x.carry(0, 0, 5), k < 16 ? 0 : FULL);
        }
        for (int k = 0; k < 5; k++) {
            Due.is("binding of an interceptor", x.bindInterceptor(7, 0, 5), k < 4 ? 0 : FULL);
            Due.is("binding of a component", x.bind(3, -1, 0, 5), k < 4 ? 0 : FULL);
            Due.is("binding of a method", x.bind(3, 3, 0, 5), k < 4 ? 0 : FULL);
            Due.is("list of a component", x.list(3, -1, 0), k < 4 ? 0 : FULL);
            Due.is("list of a method", x.list(3, 3, 0), k < 4 ? 0 : FULL);
        }
    }

    @Says(under = "Promise 2", words = "All is as it was at first (nothing is deployed)")
    static void promise2ClearLeavesNothingToThoseDeclaredAnew() {
        BoundChains x = deployed(filled());
        x.clear();
        x.binding(true);
        x.interceptor(1, 15, 0);
        x.decorator(1, 0, 1, 0);
        x.component(1);
        deployed(x);
        Due.chainIs("no list, no bindings", x, 0, 0, 16, 32);
        for (int m = 1; m < 7; m++) {
            Due.chainIs("no list, no bindings " + m, x, 0, m, 32);
        }
        x.invoke(0, 1, 2);
        Due.ended("not failing", x, 7, 0);
        Due.is("no second component", x.length(1, 0), NOTHING);
    }

    @Says(under = "Promise 2", words = "All is as it was at first (nothing is deployed)")
    static void promise2ClearOfANewObjectAndTwice() {
        BoundChains x = new BoundChains();
        x.clear();
        x.clear();
        Due.is("not deployed", x.length(0, 0), OPEN);
        Due.ended("cleared", x, 0, 0);
        Due.logIs("cleared", x);
        Due.is("no type", x.carry(0, 0, 0), NOTHING);
        Due.is("the first type", x.binding(true), 0);
        x.clear();
        Due.is("not there any more", x.carry(0, 0, 0), NOTHING);
        Due.is("deploy", x.deploy(), 0);
        x.clear();
        Due.is("deploy again", x.deploy(), 0);
    }

    @Says(under = "Promise 3", words = "`int binding(boolean matters)`: Declares a binding type, "
        + "whose value matters or not: its number.")
    static void promise3BindingMattersOrNot() {
        for (int last = 0; last < 2; last++) {
            BoundChains x = new BoundChains();
            for (int b = 0; b < 7; b++) {
                Due.is("type " + b, x.binding(last == 1), b);
            }
            Due.is("the last type", x.binding(last == 0), 7);
            x.component(0);
            x.bind(0, 3, 7, 1);
            x.bind(0, 3, 7, 2);
            Due.is("two values of the last type", x.deploy(), last == 0 ? 204 : 0);
        }
    }

    @Says(under = "Promise 3", words = "CLOSED; FULL when there are eight.")
    static void promise3BindingFullWhenThereAreEight() {
        BoundChains x = with(7, 0, 1);
        Due.is("the eighth", x.binding(false), 7);
        Due.is("a ninth", x.binding(false), FULL);
        Due.is("a ninth that matters", x.binding(true), FULL);
        x.bind(0, 0, 7, 1);
        x.bind(0, 0, 7, 2);
        Due.is("the eighth is what it was", x.deploy(), 0);
        Due.is("closed and full", x.binding(true), CLOSED);
        Due.is("closed", deployed(with(0, 0, 0)).binding(true), CLOSED);
    }

    @Says(under = "Promise 4", words = "`int carry(int b, int c, int v)`: Type b carries one more "
        + "binding, of type c (which may be b) with value v; answers 0.")
    static void promise4CarryItself() {
        for (int b = 0; b < 8; b += 7) {
            BoundChains x = with(8, 0, 1);
            Due.is("carry itself", x.carry(b, b, 5), 0);
            x.bind(0, 0, b, 5);
            x.bind(0, 1, b, 6);
            Due.is("another value than its own", x.deploy(), 202);
            BoundChains y = with(8, 1, 1);
            Due.is("carry the other end", y.carry(b, 7 - b, LEAST), 0);
            y.bind(0, 0, b, 5);
            y.bindInterceptor(0, 7 - b, LEAST);
            deployed(y);
            Due.chainIs("carried", y, 0, 0, 0, 32);
        }
    }

    @Says(under = "Promise 4", words = "CLOSED; NOTHING when there is no type b or c;")
    static void promise4CarryNothing() {
        BoundChains x = with(3, 0, 0);
        for (int wrong : new int[] {LEAST, -1, 3, 7, 8, MOST}) {
            Due.is("no type b " + wrong, x.carry(wrong, 2, 0), NOTHING);
            Due.is("no type c " + wrong, x.carry(2, wrong, 0), NOTHING);
            Due.is("neither " + wrong, x.carry(wrong, wrong, 0), NOTHING);
        }
        Due.is("the least and the last", x.carry(0, 2, 0), 0);
        deployed(x);
        Due.is("closed", x.carry(0, 2, 0), CLOSED);
        Due.is("closed and nothing", x.carry(3, 3, 0), CLOSED);
    }

    @Says(under = "Promise 4", words = "FULL when all types together carry sixteen.")
    static void promise4CarryFullWithSixteenOfAllTypes() {
        BoundChains x = with(8, 1, 1);
        for (int k = 0; k < 16; k++) {
            Due.is("carried " + k, x.carry(k % 7, 7, k == 15 ? 6 : 5), 0);
        }
        Due.is("of a type that carries some", x.carry(0, 1, 5), FULL);
        Due.is("of a type that carries none", x.carry(7, 1, 5), FULL);
        Due.is("the same once more", x.carry(0, 7, 5), FULL);
        x.bindInterceptor(0, 7, 5);
        x.bind(0, 0, 0, 5);
        x.bind(0, 2, 2, 5);
        Due.is("what was refused is not carried", x.deploy(), 0);
        Due.chainIs("what came before is", x, 0, 0, 0, 32);
        BoundChains y = with(8, 0, 1);
        for (int k = 0; k < 16; k++) {
            y.carry(0, 7, k < 15 ? 5 : 6);
        }
        y.bind(0, 0, 0, 5);
        Due.is("the sixteenth is carried", y.deploy(), 201);
        Due.is("a full one of one type", y.carry(1, 7, 5), FULL);
    }

    /** The same binding carried once more is one more, though no closure shows it. */
    @Says(under = "Promise 4", words = "Type b carries one more binding")
    static void promise4CarryTheSameIsOneMore() {
        BoundChains x = with(1, 0, 0);
        for (int k = 0; k < 16; k++) {
            Due.is("the same " + k, x.carry(0, 0, 5), 0);
        }
        Due.is("the same a seventeenth time", x.carry(0, 0, 5), FULL);
    }

    @Says(under = "Promise 5", words = "`int interceptor(int priority, int kinds, int behaviour)`: "
        + "Declares an interceptor without bindings: its number.")
    static void promise5InterceptorWithoutBindings() {
        BoundChains x = with(1, 0, 1);
        for (int i = 0; i < 8; i++) {
            Due.is("interceptor " + i, x.interceptor(1, 15, 0), i);
        }
        x.bindInterceptor(7, 0, 0);
        x.bind(0, -1, 0, 0);
        deployed(x);
        Due.chainIs("only the one that got a binding", x, 0, 0, 7, 32);
        Due.chainIs("only the one that got a binding, for an event", x, 0, 4, 7, 32);
    }

    @Says(under = "Promise 5", words = "CLOSED; BAD when priority is not 0 .. 9, kinds is not "
        + "0 .. 15, or behaviour is not 0 .. 5;")
    static void promise5InterceptorBad() {
        BoundChains x = new BoundChains();
        for (int wrong : new int[] {LEAST, -1, 10, 16, MOST}) {
            Due.is("priority " + wrong, x.interceptor(wrong, 0, 0), BAD);
        }
        for (int wrong : new int[] {LEAST, -1, 16, 32, MOST}) {
            Due.is("kinds " + wrong, x.interceptor(0, wrong, 0), BAD);
        }
        for (int wrong : new int[] {LEAST, -1, 6, 8, MOST}) {
            Due.is("behaviour " + wrong, x.interceptor(0, 0, wrong), BAD);
        }
        Due.is("the least of all", x.interceptor(0, 0, 0), 0);
        Due.is("the most of all", x.interceptor(9, 15, 5), 1);
        deployed(x);
        Due.is("closed", x.interceptor(0, 0, 0), CLOSED);
        Due.is("closed and bad", x.interceptor(10, 16, 6), CLOSED);
    }

    @Says(under = "Promise 5", words = "FULL when there are eight.")
    static void promise5InterceptorFullWhenThereAreEight() {
        BoundChains x = with(0, 7, 1);
        Due.is("the eighth", x.interceptor(0, 0, 0), 7);
        Due.is("a ninth", x.interceptor(0, 0, 0), FULL);
        Due.is("bad before full", x.interceptor(10, 0, 0), BAD);
        Due.is("no ninth to list", x.list(0, 0, 8), NOTHING);
        deployed(x);
        Due.is("closed before full", x.interceptor(0, 0, 0), CLOSED);
    }

    @Says(under = "Promise 6", words = "`int decorator(int priority, int type, int methods, "
        + "int behaviour)`: Declares a decorator: its number.")
    static void promise6DecoratorNumbers() {
        BoundChains x = new BoundChains();
        x.component(128);
        for (int d = 0; d < 4; d++) {
            Due.is("decorator " + d, x.decorator(9 - d, 7, 1 << d, d + 2), d);
        }
        deployed(x);
        for (int d = 0; d < 4; d++) {
            Due.chainIs("method " + d, x, 0, d, 16 + d, 32);
        }
        x.invoke(0, 2, 5);
        Due.ended("the third throws", x, 0, 19);
    }

    @Says(under = "Promise 6", words = "CLOSED; BAD when priority is not 0 .. 9, type is not "
        + "0 .. 7, methods is not 0 .. 15, or behaviour is not 0 .. 5;")
    static void promise6DecoratorBad() {
        BoundChains x = new BoundChains();
        for (int wrong : new int[] {LEAST, -1, 10, 16, MOST}) {
            Due.is("priority " + wrong, x.decorator(wrong, 0, 0, 0), BAD);
        }
        for (int wrong : new int[] {LEAST, -1, 8, 32, MOST}) {
            Due.is("type " + wrong, x.decorator(0, wrong, 0, 0), BAD);
        }
        for (int wrong : new int[] {LEAST, -1, 16, 32, MOST}) {
            Due.is("methods " + wrong, x.decorator(0, 0, wrong, 0), BAD);
        }
        for (int wrong : new int[] {LEAST, -1, 6, 8, MOST}) {
            Due.is("behaviour " + wrong, x.decorator(0, 0, 0, wrong), BAD);
        }
        Due.is("the least of all", x.decorator(0, 0, 0, 0), 0);
        Due.is("the most of all", x.decorator(9, 7, 15, 5), 1);
        deployed(x);
        Due.is("closed", x.decorator(0, 0, 0, 0), CLOSED);
        Due.is("closed and bad", x.decorator(10, 8, 16, 6), CLOSED);
    }

    @Says(under = "Promise 6", words = "FULL when there are four.")
    static void promise6DecoratorFullWhenThereAreFour() {
        BoundChains x = new BoundChains();
        x.component(1);
        for (int d = 0; d < 4; d++) {
            Due.is("decorator " + d, x.decorator(1, 0, 15, 0), d);
        }
        Due.is("a fifth", x.decorator(1, 0, 15, 0), FULL);
        Due.is("bad before full", x.decorator(1, 8, 15, 0), BAD);
        deployed(x);
        Due.chainIs("four", x, 0, 0, 16, 17, 18, 19, 32);
        Due.is("closed before full", x.decorator(1, 0, 15, 0), CLOSED);
    }

    @Says(under = "Promise 7",
        words = "`int component(int types)`: Declares a component with these types: its number.")
    static void promise7ComponentNumbers() {
        BoundChains x = new BoundChains();
        x.decorator(1, 0, 15, 0);
        x.decorator(1, 7, 15, 0);
        int[] types = {0, 255, 1, 128};
        for (int c = 0; c < 4; c++) {
            Due.is("component " + c, x.component(types[c]), c);
        }
        deployed(x);
        Due.chainIs("no type", x, 0, 0, 32);
        Due.chainIs("all types", x, 1, 0, 16, 17, 32);
        Due.chainIs("the first type", x, 2, 0, 16, 32);
        Due.chainIs("the last type", x, 3, 0, 17, 32);
    }

    @Says(under = "Promise 7", words = "CLOSED; BAD when types is not 0 .. 255;")
    static void promise7ComponentBad() {
        BoundChains x = new BoundChains();
        for (int wrong : new int[] {LEAST, LEAST + 1, -1, 256, 512, MOST}) {
            Due.is("types " + wrong, x.component(wrong), BAD);
        }
        Due.is("the least", x.component(0), 0);
        Due.is("the most", x.component(255), 1);
        deployed(x);
        Due.is("closed", x.component(0), CLOSED);
        Due.is("closed and bad", x.component(256), CLOSED);
    }

    @Says(under = "Promise 7", words = "FULL when there are four.")
    static void promise7ComponentFullWhenThereAreFour() {
        BoundChains x = with(0, 0, 3);
        Due.is("the fourth", x.component(1), 3);
        Due.is("a fifth", x.component(1), FULL);
        Due.is("bad before full", x.component(256), BAD);
        Due.is("flags of a fifth", x.flags(4, 0, 0), NOTHING);
        deployed(x);
        Due.is("the fourth is there", x.length(3, 3), 1);
        Due.is("the fifth is not", x.length(4, 0), NOTHING);
        Due.is("closed before full", x.component(1), CLOSED);
    }

    @Says(under = "Promise 8", words = "`int bindInterceptor(int i, int b, int v)`: Interceptor i "
        + "gets one more binding, of type b with value v; answers 0.")
    static void promise8BindInterceptorFirstAndLast() {
        BoundChains x = with(8, 8, 1);
        Due.is("the first, of the last type", x.bindInterceptor(0, 7, LEAST), 0);
        Due.is("the last, of the first type", x.bindInterceptor(7, 0, MOST), 0);
        x.bind(0, 0, 7, LEAST);
        x.bind(0, 1, 0, MOST);
        deployed(x);
        Due.chainIs("the first", x, 0, 0, 0, 32);
        Due.chainIs("the last", x, 0, 1, 7, 32);
    }

    @Says(under = "Promise 8", words = "CLOSED; NOTHING when there is no interceptor i or type b;")
    static void promise8BindInterceptorNothing() {
        BoundChains x = with(3, 2, 0);
        for (int wrong : new int[] {LEAST, -1, 2, 7, 8, MOST}) {
            Due.is("no interceptor " + wrong, x.bindInterceptor(wrong, 0, 0), NOTHING);
        }
        for (int wrong : new int[] {LEAST, -1, 3, 7, 8, MOST}) {
            Due.is("no type " + wrong, x.bindInterceptor(1, wrong, 0), NOTHING);
        }
        deployed(x);
        Due.is("closed", x.bindInterceptor(1, 2, 0), CLOSED);
        Due.is("closed and nothing", x.bindInterceptor(2, 3, 0), CLOSED);
    }

    @Says(under = "Promise 8", words = "FULL when it has four.")
    static void promise8BindInterceptorFullWhenItHasFour() {
        BoundChains x = with(5, 3, 0);
        for (int b = 0; b < 4; b++) {
            Due.is("binding " + b, x.bindInterceptor(1, b, 0), 0);
        }
        Due.is("a fifth", x.bindInterceptor(1, 4, 0), FULL);
        Due.is("nothing before full", x.bindInterceptor(1, 5, 0), NOTHING);
        Due.is("the one before has room", x.bindInterceptor(0, 4, 0), 0);
        Due.is("the one behind has room", x.bindInterceptor(2, 4, 0), 0);
        deployed(x);
        Due.is("closed before full", x.bindInterceptor(1, 4, 0), CLOSED);
    }

    @Says(under = "Promise 8", words = "gets one more binding")
    static void promise8BindInterceptorTheSameIsOneMore() {
        BoundChains x = with(1, 1, 0);
        for (int k = 0; k < 4; k++) {
            Due.is("the same " + k, x.bindInterceptor(0, 0, 5), 0);
        }
        Due.is("the same a fifth time", x.bindInterceptor(0, 0, 5), FULL);
    }

    @Says(under = "Promise 9", words = "`int bind(int component, int m, int b, int v)`: Method m "
        + "of a component, or for m = -1 the component itself, gets one more binding, of type b "
        + "with value v; answers 0.")
    static void promise9BindEachMethodAndTheComponent() {
        BoundChains x = with(8, 5, 4);
        for (int m = -1; m < 4; m++) {
            Due.is("bind " + m, x.bind(3, m, 7, m), 0);
            x.bindInterceptor(m + 1, 7, m);
        }
        deployed(x);
        for (int m = 0; m < 4; m++) {
            Due.chainIs("method " + m, x, 3, m, m + 1, 32);
            Due.chainIs("of another component " + m, x, 2, m, 32);
        }
        Due.chainIs("the component itself", x, 3, 4, 0, 32);
    }

    @Says(under = "Promise 9", words = "CLOSED; NOTHING when there is no such component or type b, "
        + "or m is not -1 .. 3;")
    static void promise9BindNothing() {
        BoundChains x = with(3, 0, 2);
        for (int wrong : new int[] {LEAST, -1, 2, 3, 4, MOST}) {
            Due.is("no component " + wrong, x.bind(wrong, 0, 0, 0), NOTHING);
            Due.is("no component itself " + wrong, x.bind(wrong, -1, 0, 0), NOTHING);
        }
        for (int wrong : new int[] {LEAST, -1, 3, 7, 8, MOST}) {
            Due.is("no type " + wrong, x.bind(1, 0, wrong, 0), NOTHING);
        }
        for (int wrong : new int[] {LEAST, -2, 4, 6, 7, MOST}) {
            Due.is("no method " + wrong, x.bind(1, wrong, 0, 0), NOTHING);
        }
        deployed(x);
        Due.is("closed", x.bind(1, -1, 2, 0), CLOSED);
        Due.is("closed and nothing", x.bind(2, 4, 3, 0), CLOSED);
    }

    @Says(under = "Promise 9", words = "FULL when it has four.")
    static void promise9BindFullWhenItHasFour() {
        BoundChains x = with(5, 0, 2);
        for (int m = -1; m < 4; m++) {
            for (int b = 0; b < 4; b++) {
                Due.is("binding " + b + " of " + m, x.bind(0, m, b, 0), 0);
            }
            Due.is("a fifth of " + m, x.bind(0, m, 4, 0), FULL);
            Due.is("nothing before full", x.bind(0, m, 5, 0), NOTHING);
            Due.is("the other component's has room", x.bind(1, m, 4, 0), 0);
        }
        deployed(x);
        Due.is("closed before full", x.bind(0, 0, 4, 0), CLOSED);
    }

    @Says(under = "Promise 9", words = "gets one more binding")
    static void promise9BindTheSameIsOneMore() {
        BoundChains x = new BoundChains();
        x.binding(false);
        x.component(0);
        for (int k = 0; k < 4; k++) {
            Due.is("the same of the component " + k, x.bind(0, -1, 0, k), 0);
            Due.is("the same of a method " + k, x.bind(0, 2, 0, k), 0);
        }
        Due.is("of the component a fifth time", x.bind(0, -1, 0, 0), FULL);
        Due.is("of a method a fifth time", x.bind(0, 2, 0, 0), FULL);
    }

    @Says(under = "Promise 10", words = "`int list(int component, int m, int i)`: The list of "
        + "method m of a component, or for m = -1 of the component itself, gets interceptor i "
        + "(enabled or not) at its end; answers 0.")
    static void promise10ListEnabledOrNotAtItsEnd() {
        BoundChains x = with(0, 7, 4);
        Due.is("one that is not enabled", x.interceptor(0, 15, 0), 7);
        Due.is("the first", x.list(3, -1, 7), 0);
        Due.is("behind it", x.list(3, -1, 0), 0);
        Due.is("the last", x.list(3, 3, 6), 0);
        Due.is("behind the last", x.list(3, 3, 7), 0);
        Due.is("another list", x.list(3, 0, 2), 0);
        deployed(x);
        Due.chainIs("method 3", x, 3, 3, 7, 0, 6, 7, 32);
        Due.chainIs("method 0", x, 3, 0, 7, 0, 2, 32);
        Due.chainIs("event", x, 3, 6, 7, 0, 32);
        Due.chainIs("another component", x, 0, 3, 32);
    }

    @Says(under = "Promise 10", words = "CLOSED; NOTHING when there is no such component or "
        + "interceptor i, or m is not -1 .. 3;")
    static void promise10ListNothing() {
        BoundChains x = with(0, 3, 2);
        for (int wrong : new int[] {LEAST, -1, 2, 3, 4, MOST}) {
            Due.is("no component " + wrong, x.list(wrong, 0, 0), NOTHING);
            Due.is("no component itself " + wrong, x.list(wrong, -1, 0), NOTHING);
        }
        for (int wrong : new int[] {LEAST, -1, 3, 7, 8, MOST}) {
            Due.is("no interceptor " + wrong, x.list(1, 0, wrong), NOTHING);
        }
        for (int wrong : new int[] {LEAST, -2, 4, 6, 7, MOST}) {
            Due.is("no method " + wrong, x.list(1, wrong, 0), NOTHING);
        }
        deployed(x);
        Due.is("closed", x.list(1, -1, 2), CLOSED);
        Due.is("closed and nothing", x.list(2, 4, 3), CLOSED);
    }

    @Says(under = "Promise 10", words = "FULL when it has four.")
    static void promise10ListFullWhenItHasFour() {
        BoundChains x = with(0, 5, 2);
        for (int m = -1; m < 4; m++) {
            for (int i = 0; i < 4; i++) {
                Due.is("listed " + i + " of " + m, x.list(0, m, i), 0);
            }
            Due.is("a fifth of " + m, x.list(0, m, 4), FULL);
            Due.is("the same again", x.list(0, m, 3), FULL);
            Due.is("nothing before full", x.list(0, m, 5), NOTHING);
            Due.is("the other component's has room", x.list(1, m, 4), 0);
        }
        deployed(x);
        Due.is("closed before full", x.list(0, 0, 4), CLOSED);
        Due.chainIs("the fifth is not there", x, 0, 4, 0, 1, 2, 3, 32);
    }

    @Says(under = "Promise 11", words = "`int flags(int component, int m, int what)`: The flags of "
        + "method m of a component become (instead of what they were) those of which what is the "
        + "sum: 1 FINAL, 2 ALONE, 4 FAILING; answers 0.")
    static void promise11FlagsBecomeInsteadOfWhatTheyWere() {
        for (int before = 0; before < 8; before++) {
            for (int what = 0; what < 8; what++) {
                BoundChains x = with(0, 1, 4);
                x.list(3, -1, 0);
                Due.is("flags " + before, x.flags(3, 3, before), 0);
                Due.is("flags " + what, x.flags(3, 3, what), 0);
                boolean chain = (what & 2) == 0;
                boolean refused = (what & 1) != 0 && chain;
                Due.is("final with " + what, x.deploy(), refused ? 315 : 0);
                if (refused) {
                    Due.is("not final any more", x.flags(3, 3, what - 1), 0);
                    Due.is("deploy", x.deploy(), 0);
                }
                Due.is("alone with " + what, x.length(3, 3), chain ? 2 : 1);
                x.invoke(3, 3, 5);
                Due.ended("failing with " + what, x, what < 4 ? 18 : 0, what < 4 ? 0 : 36);
            }
        }
    }

    @Says(under = "Promise 11",
        words = "CLOSED; NOTHING when there is no such component or m is not 0 .. 3;")
    static void promise11FlagsNothing() {
        BoundChains x = with(0, 0, 2);
        for (int wrong : new int[] {LEAST, -1, 2, 3, 4, MOST}) {
            Due.is("no component " + wrong, x.flags(wrong, 0, 0), NOTHING);
        }
        for (int wrong : new int[] {LEAST, -2, -1, 4, 6, 7, MOST}) {
            Due.is("no method " + wrong, x.flags(1, wrong, 0), NOTHING);
        }
        deployed(x);
        Due.is("closed", x.flags(1, 3, 4), CLOSED);
        Due.is("closed and nothing", x.flags(2, 4, 4), CLOSED);
        x.invoke(1, 3, 0);
        Due.ended("closed changes nothing", x, 3, 0);
    }

    @Says(under = "Promise 11", words = "BAD when what is not 0 .. 7.")
    static void promise11FlagsBad() {
        BoundChains x = with(0, 0, 1);
        for (int wrong : new int[] {LEAST, LEAST + 4, -1, 8, 12, 16, MOST}) {
            Due.is("what " + wrong, x.flags(0, 3, wrong), BAD);
            Due.is("nothing before bad: method", x.flags(0, 4, wrong), NOTHING);
            Due.is("nothing before bad: the component itself", x.flags(0, -1, wrong), NOTHING);
            Due.is("nothing before bad: component", x.flags(1, 0, wrong), NOTHING);
        }
        Due.is("the least", x.flags(0, 0, 0), 0);
        Due.is("the most", x.flags(0, 1, 7), 0);
        deployed(x);
        Due.is("closed before bad", x.flags(0, 0, 8), CLOSED);
        x.invoke(0, 3, 0);
        Due.ended("bad changes nothing", x, 3, 0);
    }
}
