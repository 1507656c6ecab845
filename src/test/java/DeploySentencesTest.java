/** The sentences on closures, conflicts and deployment. */
final class DeploySentencesTest {
    private static final int CLOSED = BoundChains.CLOSED;
    private static final int OPEN = BoundChains.OPEN;
    private static final int LEAST = Integer.MIN_VALUE;
    private static final int MOST = Integer.MAX_VALUE;

    public static void main(String[] args) {
        Sentences.test(DeploySentencesTest.class);
    }

    private static BoundChains with(int types, int interceptors, int components) {
        BoundChains x = new BoundChains();
        for (int b = 0; b < types; b++) {
            x.binding(true);
        }
        for (int i = 0; i < interceptors; i++) {
            x.interceptor(1, 15, 0);
        }
        for (int c = 0; c < components; c++) {
            x.component(0);
        }
        return x;
    }

    private static void bindTwoValues(BoundChains x, int component, int m) {
        x.bind(component, m, 0, 1);
        x.bind(component, m, 0, 2);
    }

    private static void bindTwoValues(BoundChains x, int i) {
        x.bindInterceptor(i, 0, 1);
        x.bindInterceptor(i, 0, 2);
    }

    @Says(under = "Terms", words = "A type may CARRY bindings. The CLOSURE of some bindings is "
        + "these bindings and, for each binding in it, all that its type carries (and so on).")
    static void termsClosureOfNoBindingsIsEmpty() {
        BoundChains x = with(2, 1, 1);
        x.carry(0, 1, 1);
        x.carry(0, 1, 2);
        x.carry(1, 1, 3);
        Due.is("conflicts of types that nobody has", x.deploy(), 0);
        Due.chainIs("nothing in force", x, 0, 0, 32);
        Due.chainIs("nothing in force for an event", x, 0, 4, 32);
    }

    @Says(under = "Terms", words = "A type may CARRY bindings.")
    static void termsClosureOfATypeThatCarriesNothing() {
        BoundChains x = with(3, 3, 1);
        x.carry(0, 1, 5);
        for (int i = 0; i < 3; i++) {
            x.bindInterceptor(i, i, 5);
        }
        x.bind(0, 0, 2, 5);
        x.bind(0, 1, 1, 5);
        Due.is("deploy", x.deploy(), 0);
        Due.chainIs("the binding alone", x, 0, 0, 2, 32);
        Due.chainIs("what is carried does not bring its carrier", x, 0, 1, 1, 32);
    }

    /** Each order of declaring the seven steps; the worst needs a pass over them for each step. */
    @Says(under = "Terms", words = "for each binding in it, all that its type carries (and so on).")
    static void termsClosureGoesThroughAllEightTypes() {
        int[][] orders = {{0, 1, 2, 3, 4, 5, 6}, {6, 5, 4, 3, 2, 1, 0}, {3, 6, 0, 5, 1, 4, 2}};
        for (int[] order : orders) {
            BoundChains x = with(8, 8, 1);
            for (int b : order) {
                x.carry(b, b + 1, b + 101);
            }
            for (int i = 0; i < 8; i++) {
                x.bindInterceptor(i, i, 100 + i);
            }
            x.bind(0, 0, 0, 100);
            x.bind(0, 1, 7, 107);
            Due.is("deploy", x.deploy(), 0);
            Due.chainIs("from the first", x, 0, 0, 0, 1, 2, 3, 4, 5, 6, 7, 32);
            Due.chainIs("from the last", x, 0, 1, 7, 32);
        }
    }

    @Says(under = "Terms", words = "for each binding in it, all that its type carries (and so on).")
    static void termsClosureOfARingEnds() {
        for (int step = 1; step < 8; step += 2) {
            for (int last = 0; last < 2; last++) {
                BoundChains x = with(8, 1, 1);
                for (int k = 0; k < 8; k++) {
                    x.carry(k * step % 8, (k + 1) * step % 8, k == 7 ? last : 5);
                }
                x.bind(0, 2, 0, 1);
                x.bindInterceptor(0, 7, 5);
                int found = last == 1 ? 0 : 203;
                Due.is("a ring of eight that comes back with " + last, x.deploy(), found);
                if (found == 0) {
                    Due.chainIs("the ring is in force", x, 0, 2, 0, 32);
                }
            }
        }
    }

    /** The step back to the first is declared first, and is the last that can be gone. */
    @Says(under = "Terms", words = "for each binding in it, all that its type carries (and so on).")
    static void termsClosureOfARingDeclaredBackwards() {
        for (int last = 0; last < 2; last++) {
            BoundChains x = with(8, 0, 1);
            for (int b = 7; b >= 0; b--) {
                x.carry(b, (b + 1) % 8, b == 7 ? last : 5);
            }
            x.bind(0, 2, 0, 1);
            Due.is("it comes back with " + last, x.deploy(), last == 1 ? 0 : 203);
        }
    }

    @Says(under = "Terms", words = "for each binding in it, all that its type carries (and so on).")
    static void termsClosureOfATypeThatCarriesItself() {
        BoundChains x = with(2, 1, 1);
        x.carry(1, 1, MOST);
        x.bind(0, 0, 1, MOST);
        x.bindInterceptor(0, 1, MOST);
        Due.is("with its own value", x.deploy(), 0);
        Due.chainIs("with its own value", x, 0, 0, 0, 32);
        BoundChains y = with(2, 0, 1);
        y.carry(1, 1, MOST);
        y.bind(0, 0, 1, LEAST);
        Due.is("with another value", y.deploy(), 201);
        BoundChains z = new BoundChains();
        z.binding(false);
        z.carry(0, 0, MOST);
        z.component(0);
        z.bind(0, 0, 0, LEAST);
        Due.is("with a value that does not matter", z.deploy(), 0);
    }

    @Says(under = "Terms", words = "all that its type carries (and so on).")
    static void termsClosureHasAllSixteenThatOneTypeCarries() {
        BoundChains x = with(8, 0, 1);
        for (int k = 0; k < 16; k++) {
            x.carry(0, 1 + k % 7, 1 + k % 7);
        }
        for (int b = 1; b < 8; b++) {
            int i = x.interceptor(1, 15, 0);
            x.bindInterceptor(i, b, b);
        }
        x.bind(0, -1, 0, 0);
        Due.is("deploy", x.deploy(), 0);
        Due.chainIs("all are in force", x, 0, 0, 0, 1, 2, 3, 4, 5, 6, 32);
    }

    @Says(under = "Terms", words = "A closure has a CONFLICT when it has two bindings of the same "
        + "type with different values.")
    static void termsConflictOfValuesThatDifferInOneBit() {
        for (int bit = 0; bit < 32; bit++) {
            BoundChains x = with(1, 0, 1);
            x.bind(0, 3, 0, 0);
            x.bind(0, 3, 0, 1 << bit);
            Due.is("bit " + bit, x.deploy(), 204);
            BoundChains y = with(1, 0, 1);
            y.bind(0, 3, 0, 1 << bit);
            y.bind(0, 3, 0, 1 << bit);
            Due.is("equal values, bit " + bit, y.deploy(), 0);
        }
        for (int[] pair : new int[][] {{LEAST, MOST}, {MOST, LEAST}, {-1, 1}, {MOST, -1}}) {
            BoundChains x = with(1, 0, 1);
            x.bind(0, 3, 0, pair[0]);
            x.bind(0, 3, 0, pair[1]);
            Due.is("values " + pair[0] + " and " + pair[1], x.deploy(), 204);
        }
    }

    @Says(under = "Terms", words = "two bindings of the same type with different values.")
    static void termsConflictOfTheFirstOfFourWithTheLast() {
        BoundChains x = with(2, 1, 1);
        int[] values = {1, 1, 1, 2};
        for (int value : values) {
            x.bind(0, -1, 1, value);
        }
        Due.is("three and another", x.deploy(), 200);
        for (int value : values) {
            x.bindInterceptor(0, 1, value);
        }
        Due.is("three and another, of an interceptor", x.deploy(), 100);
    }

    @Says(under = "Terms", words = "two bindings of the same type with different values.")
    static void termsConflictOfGivenAndCarriedBindings() {
        BoundChains given = with(2, 0, 1);
        given.carry(0, 1, 5);
        given.bind(0, 0, 0, 9);
        given.bind(0, 0, 1, 6);
        Due.is("a given one and a carried one", given.deploy(), 201);
        BoundChains twice = with(2, 0, 1);
        twice.carry(0, 1, 5);
        twice.carry(0, 1, 6);
        twice.bind(0, 0, 0, 9);
        Due.is("two that one type carries", twice.deploy(), 201);
        BoundChains meeting = with(3, 0, 1);
        meeting.carry(0, 2, 5);
        meeting.carry(1, 2, 6);
        meeting.bind(0, 0, 0, 9);
        Due.is("of one alone", meeting.deploy(), 0);
        meeting.clear();
        for (int b = 0; b < 3; b++) {
            meeting.binding(true);
        }
        meeting.carry(0, 2, 5);
        meeting.carry(1, 2, 6);
        meeting.component(0);
        meeting.bind(0, 0, 0, 9);
        meeting.bind(0, 0, 1, 9);
        Due.is("two that two types carry", meeting.deploy(), 201);
    }

    @Says(under = "Terms", words = "two bindings of the same type with different values.")
    static void termsNoConflictOfTwoTypesOrTwoOwners() {
        BoundChains x = with(2, 2, 2);
        x.bind(0, -1, 0, 1);
        x.bind(0, -1, 1, 2);
        x.bind(0, 0, 0, 2);
        x.bind(0, 1, 0, 3);
        x.bind(1, -1, 0, 4);
        x.bindInterceptor(0, 0, 5);
        x.bindInterceptor(1, 0, 6);
        Due.is("different values, but none in one closure", x.deploy(), 0);
    }

    @Says(under = "Terms", words = "DEPLOYMENT looks for the first of these: for interceptors "
        + "0, 1, ..: the closure of the interceptor's bindings has a conflict: 100 + its number.")
    static void termsDeploymentFindsTheFirstInterceptor() {
        for (int first = 0; first < 8; first++) {
            BoundChains x = with(1, 8, 1);
            bindTwoValues(x, 0, -1);
            for (int i = 7; i >= first; i--) {
                bindTwoValues(x, i);
                Due.is("from interceptor " + i, x.deploy(), 100 + i);
            }
        }
    }

    @Says(under = "Terms", words = "For components b = 0, 1, ..: the closure of the component's "
        + "own bindings has a conflict: 200 + 8 b;")
    static void termsDeploymentFindsTheFirstComponent() {
        int[] due = {200, 208, 216, 224};
        BoundChains x = with(1, 0, 4);
        for (int c = 3; c >= 0; c--) {
            bindTwoValues(x, c, 0);
            Due.is("a method of component " + c, x.deploy(), due[c] + 1);
            bindTwoValues(x, c, -1);
            Due.is("component " + c, x.deploy(), due[c]);
        }
    }

    @Says(under = "Terms", words = "then for its methods m = 0 .. 3: the closure of the method's "
        + "bindings has a conflict: 201 + 8 b + m.")
    static void termsDeploymentFindsTheFirstMethod() {
        int[] due = {201, 209, 217, 225};
        BoundChains x = with(1, 0, 4);
        for (int c = 3; c >= 0; c--) {
            for (int m = 3; m >= 0; m--) {
                bindTwoValues(x, c, m);
                Due.is("method " + m + " of " + c, x.deploy(), due[c] + m);
            }
        }
    }

    @Says(under = "Terms", words = "then for its methods m = 0 .. 3: the closure of the method's "
        + "bindings has a conflict: 201 + 8 b + m.")
    static void termsDeploymentFindsAMethodBeforeALaterComponent() {
        BoundChains x = with(1, 0, 4);
        bindTwoValues(x, 3, 3);
        Due.is("the last method of all", x.deploy(), 228);
        bindTwoValues(x, 1, -1);
        Due.is("an earlier component", x.deploy(), 208);
        bindTwoValues(x, 0, 3);
        Due.is("a method of a still earlier one", x.deploy(), 204);
    }

    @Says(under = "Terms", words = "For components b and in them for methods m, when nothing of "
        + "that was found: the method is FINAL, and its chain is more than the target: "
        + "300 + 4 b + m.")
    static void termsDeploymentFindsTheFirstFinalMethod() {
        BoundChains x = with(0, 1, 4);
        for (int c = 3; c >= 0; c--) {
            x.list(c, -1, 0);
            for (int m = 3; m >= 0; m--) {
                x.flags(c, m, 1);
                Due.is("method " + m + " of " + c, x.deploy(), 300 + 4 * c + m);
            }
        }
    }

    @Says(under = "Terms", words = "when nothing of that was found: the method is FINAL, and its "
        + "chain is more than the target")
    static void termsDeploymentFindsFinalBehindAllConflicts() {
        BoundChains x = with(1, 1, 4);
        x.list(0, 0, 0);
        x.flags(0, 0, 1);
        Due.is("final", x.deploy(), 300);
        bindTwoValues(x, 3, 3);
        Due.is("a conflict of the last method of all comes first", x.deploy(), 228);
        bindTwoValues(x, 0);
        Due.is("a conflict of an interceptor comes first", x.deploy(), 100);
    }

    @Says(under = "Terms", words = "the method is FINAL, and its chain is more than the target")
    static void termsDeploymentTakesAFinalMethodWithTheTargetAlone() {
        BoundChains x = with(2, 0, 0);
        x.component(2);
        x.interceptor(1, 14, 0);
        x.interceptor(0, 15, 0);
        x.interceptor(1, 15, 0);
        x.interceptor(1, 15, 0);
        x.bindInterceptor(0, 0, 1);
        x.bindInterceptor(1, 0, 1);
        x.bindInterceptor(3, 0, 2);
        x.list(0, -1, 0);
        x.list(0, 1, 0);
        x.list(0, 2, 3);
        x.bind(0, -1, 0, 1);
        x.decorator(0, 1, 15, 0);
        x.decorator(1, 0, 15, 0);
        x.decorator(1, 1, 13, 0);
        x.flags(0, 1, 1);
        Due.is("nothing takes part in it", x.deploy(), 0);
        Due.chainIs("the target alone", x, 0, 1, 32);
        Due.chainIs("though not for the event", x, 0, 4, 0, 0, 32);
    }

    @Says(under = "Terms", words = "the method is FINAL, and its chain is more than the target")
    static void termsDeploymentRefusesOneElementOfEachKind() {
        BoundChains list = with(0, 1, 1);
        list.list(0, 3, 0);
        list.flags(0, 3, 1);
        Due.is("of its own list", list.deploy(), 303);
        list.flags(0, 3, 3);
        Due.is("alone does not take that away", list.deploy(), 303);
        BoundChains owners = with(0, 1, 1);
        owners.list(0, -1, 0);
        owners.flags(0, 3, 1);
        Due.is("of the component's list", owners.deploy(), 303);
        owners.flags(0, 3, 3);
        Due.is("alone takes that away", owners.deploy(), 0);
        BoundChains bound = with(1, 1, 1);
        bound.bindInterceptor(0, 0, 1);
        bound.bind(0, -1, 0, 1);
        bound.flags(0, 3, 3);
        Due.is("a bound one", bound.deploy(), 303);
        BoundChains decorated = new BoundChains();
        decorated.component(128);
        decorated.decorator(9, 7, 8, 0);
        decorated.flags(0, 3, 7);
        Due.is("a decorator", decorated.deploy(), 303);
    }

    @Says(under = "Terms", words = "When nothing is found, the declarations are DEPLOYED, and "
        + "nothing can be declared any more.")
    static void termsDeployedNothingCanBeDeclaredAnyMore() {
        BoundChains x = with(1, 1, 1);
        Due.is("deploy", x.deploy(), 0);
        Due.is("binding", x.binding(true), CLOSED);
        Due.is("carry", x.carry(0, 0, 0), CLOSED);
        Due.is("interceptor", x.interceptor(1, 1, 1), CLOSED);
        Due.is("decorator", x.decorator(1, 1, 1, 1), CLOSED);
        Due.is("component", x.component(1), CLOSED);
        Due.is("bindInterceptor", x.bindInterceptor(0, 0, 0), CLOSED);
        Due.is("bind", x.bind(0, 0, 0, 0), CLOSED);
        Due.is("list", x.list(0, 0, 0), CLOSED);
        Due.is("flags", x.flags(0, 0, 4), CLOSED);
        Due.chainIs("none of that is there", x, 0, 0, 32);
        x.invoke(0, 0, 1);
        Due.ended("none of that is there", x, 3, 0);
    }

    @Says(under = "Promise 12", words = "`int deploy()`: Deploys: 0, or what was found (then "
        + "nothing is changed, and more may be declared).")
    static void promise12FoundThenMoreMayBeDeclared() {
        BoundChains x = with(1, 1, 1);
        x.list(0, 0, 0);
        x.flags(0, 0, 1);
        Due.is("found", x.deploy(), 300);
        Due.is("found again", x.deploy(), 300);
        Due.is("length", x.length(0, 0), OPEN);
        Due.is("element", x.element(0, 0, 0), OPEN);
        Due.is("invoke", x.invoke(0, 0, 0), OPEN);
        Due.is("binding", x.binding(true), 1);
        Due.is("carry", x.carry(1, 0, 0), 0);
        Due.is("interceptor", x.interceptor(1, 15, 0), 1);
        Due.is("decorator", x.decorator(1, 0, 15, 0), 0);
        Due.is("component", x.component(1), 1);
        Due.is("bindInterceptor", x.bindInterceptor(1, 0, 0), 0);
        Due.is("bind", x.bind(1, 0, 1, 0), 0);
        Due.is("list", x.list(1, 0, 0), 0);
        Due.is("flags", x.flags(0, 0, 4), 0);
        Due.is("deploy", x.deploy(), 0);
        Due.chainIs("what was declared before", x, 0, 0, 0, 32);
        Due.chainIs("what was declared since", x, 1, 0, 0, 1, 16, 32);
    }

    @Says(under = "Promise 12", words = "or what was found (then nothing is changed, and more may "
        + "be declared).")
    static void promise12FoundChangesNothingOfTheLatestInvocation() {
        BoundChains x = with(1, 1, 1);
        bindTwoValues(x, 0);
        Due.is("found", x.deploy(), 100);
        Due.ended("found", x, 0, 0);
        Due.logIs("found", x);
        x.clear();
        Due.is("nothing declared is deployed", x.deploy(), 0);
    }

    @Says(under = "Promise 12", words = "Interceptors that are not enabled are looked at, too.")
    static void promise12NotEnabledInterceptorsAreLookedAt() {
        BoundChains x = new BoundChains();
        x.binding(true);
        x.interceptor(9, 15, 0);
        x.interceptor(0, 0, 0);
        bindTwoValues(x, 1);
        Due.is("not enabled, and of no kind", x.deploy(), 101);
    }

    @Says(under = "Promise 12", words = "CLOSED when they are deployed already.")
    static void promise12ClosedWhenDeployedAlready() {
        BoundChains x = new BoundChains();
        Due.is("nothing declared", x.deploy(), 0);
        Due.is("again", x.deploy(), CLOSED);
        Due.is("and again", x.deploy(), CLOSED);
        x.clear();
        x.component(0);
        x.flags(0, 2, 4);
        Due.is("after clear", x.deploy(), 0);
        x.invoke(0, 2, 5);
        Due.is("after an invocation", x.deploy(), CLOSED);
        Due.ended("kept", x, 0, 35);
        Due.logIs("kept", x, 32);
    }
}
