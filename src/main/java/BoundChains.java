/**
 * Finds which interceptors and decorators stand before the methods and events of components, says
 * what is wrong with a set of declarations, and runs invocations through these chains.
 *
 * <p>All rows are made once, in the constructor; no later call makes an object.
 */
public final class BoundChains {
    public static final int CLOSED = -2;
    public static final int NOTHING = -3;
    public static final int BAD = -4;
    public static final int FULL = -5;
    public static final int OPEN = -6;

    private static final int MOST_TYPES = 8;
    private static final int MOST_CARRIED = 16;
    private static final int MOST_INTERCEPTORS = 8;
    private static final int MOST_DECORATORS = 4;
    private static final int MOST_COMPONENTS = 4;
    private static final int MOST_BINDINGS = 4;
    private static final int MOST_LISTED = 4;
    private static final int MOST_LOGGED = 64;
    /** Two lists, every interceptor bound, every decorator, and the target. */
    private static final int MOST_ELEMENTS = 21;

    private static final int OWN = -1;
    private static final int METHODS = 4;
    private static final int METHODS_AND_EVENTS = 7;

    private static final int LAST_PRIORITY = 9;
    private static final int LAST_BEHAVIOUR = 5;
    private static final int LAST_TYPE_NUMBER = 7;
    private static final int ALL_TYPES = 255;
    private static final int ALL_METHODS = 15;
    private static final int ALL_KINDS = 15;
    private static final int ALL_FLAGS = 7;

    private static final int AROUND = 1;
    private static final int MAKING = 2;

    private static final int FINAL = 1;
    private static final int ALONE = 2;
    private static final int FAILING = 4;

    private static final int FIRST_DECORATOR = 16;
    private static final int TARGET = 32;

    private static final int PASSES = 0;
    private static final int DOUBLES = 1;
    private static final int STOPS = 2;
    private static final int GROWS = 3;
    private static final int THROWS = 4;
    private static final int CATCHES = 5;

    private static final int EVENT_RESULT = 7;
    private static final int FIRST_ERROR_OF_ELEMENT = 1;
    private static final int FIRST_ERROR_OF_TARGET = 33;
    private static final int GROWN_IN_EVENT = 50;
    private static final int LOG_IS_FULL = 99;

    private static final int CONFLICT_OF_INTERCEPTOR = 100;
    private static final int CONFLICT_OF_COMPONENT = 200;
    private static final int CONFLICT_OF_METHOD = 201;
    private static final int FINAL_WITH_CHAIN = 300;

    private final BindingTypes types;
    private final Interceptor[] interceptors;
    private int interceptorCount;
    private final Decorator[] decorators;
    private int decoratorCount;
    private final Component[] components;
    private int componentCount;
    private boolean deployed;

    private final Closure inForce;
    private final Closure closure;
    private final Chain chain;
    private final Invocation invocation;

    public BoundChains() {
        types = new BindingTypes();
        interceptors = new Interceptor[MOST_INTERCEPTORS];
        for (int i = 0; i < MOST_INTERCEPTORS; i++) {
            interceptors[i] = new Interceptor();
        }
        decorators = new Decorator[MOST_DECORATORS];
        for (int d = 0; d < MOST_DECORATORS; d++) {
            decorators[d] = new Decorator();
        }
        components = new Component[MOST_COMPONENTS];
        for (int c = 0; c < MOST_COMPONENTS; c++) {
            components[c] = new Component();
        }
        inForce = new Closure();
        closure = new Closure();
        chain = new Chain();
        invocation = new Invocation();
    }

    public void clear() {
        types.forget();
        interceptorCount = 0;
        decoratorCount = 0;
        componentCount = 0;
        deployed = false;
        invocation.forget();
    }

    public int binding(boolean matters) {
        if (deployed) {
            return CLOSED;
        }
        if (types.count == MOST_TYPES) {
            return FULL;
        }
        return types.declare(matters);
    }

    public int carry(int b, int c, int v) {
        if (deployed) {
            return CLOSED;
        }
        if (!types.has(b) || !types.has(c)) {
            return NOTHING;
        }
        if (types.carried.isFull()) {
            return FULL;
        }
        types.addCarried(b, c, v);
        return 0;
    }

    public int interceptor(int priority, int kinds, int behaviour) {
        if (deployed) {
            return CLOSED;
        }
        if (!isWithin(priority, LAST_PRIORITY) || !isWithin(kinds, ALL_KINDS)
                || !isWithin(behaviour, LAST_BEHAVIOUR)) {
            return BAD;
        }
        if (interceptorCount == MOST_INTERCEPTORS) {
            return FULL;
        }
        interceptors[interceptorCount].declare(priority, kinds, behaviour);
        interceptorCount++;
        return interceptorCount - 1;
    }

    public int decorator(int priority, int type, int methods, int behaviour) {
        if (deployed) {
            return CLOSED;
        }
        if (!isWithin(priority, LAST_PRIORITY) || !isWithin(type, LAST_TYPE_NUMBER)
                || !isWithin(methods, ALL_METHODS) || !isWithin(behaviour, LAST_BEHAVIOUR)) {
            return BAD;
        }
        if (decoratorCount == MOST_DECORATORS) {
            return FULL;
        }
        decorators[decoratorCount].declare(priority, type, methods, behaviour);
        decoratorCount++;
        return decoratorCount - 1;
    }

    public int component(int types) {
        if (deployed) {
            return CLOSED;
        }
        if (!isWithin(types, ALL_TYPES)) {
            return BAD;
        }
        if (componentCount == MOST_COMPONENTS) {
            return FULL;
        }
        components[componentCount].declare(types);
        componentCount++;
        return componentCount - 1;
    }

    public int bindInterceptor(int i, int b, int v) {
        if (deployed) {
            return CLOSED;
        }
        if (!isInterceptor(i) || !types.has(b)) {
            return NOTHING;
        }
        return addBinding(interceptors[i].bindings, b, v);
    }

    public int bind(int component, int m, int b, int v) {
        if (deployed) {
            return CLOSED;
        }
        if (!isPlace(component, m) || !types.has(b)) {
            return NOTHING;
        }
        return addBinding(components[component].place(m).bindings, b, v);
    }

    public int list(int component, int m, int i) {
        if (deployed) {
            return CLOSED;
        }
        if (!isPlace(component, m) || !isInterceptor(i)) {
            return NOTHING;
        }
        Place place = components[component].place(m);
        if (place.listedCount == MOST_LISTED) {
            return FULL;
        }
        place.addListed(i);
        return 0;
    }

    public int flags(int component, int m, int what) {
        if (deployed) {
            return CLOSED;
        }
        if (!isPlace(component, m) || m == OWN) {
            return NOTHING;
        }
        if (!isWithin(what, ALL_FLAGS)) {
            return BAD;
        }
        components[component].place(m).flags = what;
        return 0;
    }

    public int deploy() {
        if (deployed) {
            return CLOSED;
        }
        int found = findConflictOfInterceptor();
        if (found == 0) {
            found = findConflictOfComponent();
        }
        if (found == 0) {
            found = findFinalWithChain();
        }
        deployed = found == 0;
        return found;
    }

    public int length(int component, int m) {
        if (!deployed) {
            return OPEN;
        }
        if (!hasChain(component, m)) {
            return NOTHING;
        }
        buildChain(components[component], m);
        return chain.count;
    }

    public int element(int component, int m, int k) {
        if (!deployed) {
            return OPEN;
        }
        if (!hasChain(component, m)) {
            return NOTHING;
        }
        buildChain(components[component], m);
        if (k < 0 || k >= chain.count) {
            return NOTHING;
        }
        return chain.elements[k];
    }

    public int invoke(int component, int m, int argument) {
        if (!deployed) {
            return OPEN;
        }
        if (!hasChain(component, m)) {
            return NOTHING;
        }
        buildChain(components[component], m);
        if (m >= METHODS) {
            invocation.run(chain, m, 0, false);
        } else {
            invocation.run(chain, m, argument, components[component].place(m).has(FAILING));
        }
        return invocation.logged;
    }

    public int result() {
        return invocation.returned;
    }

    public int error() {
        return invocation.thrown;
    }

    public int log(int k) {
        if (k < 0 || k >= invocation.logged) {
            return NOTHING;
        }
        return invocation.entries[k];
    }

    private static boolean isWithin(int number, int last) {
        return number >= 0 && number <= last;
    }

    private boolean isInterceptor(int i) {
        return i >= 0 && i < interceptorCount;
    }

    private boolean isComponent(int c) {
        return c >= 0 && c < componentCount;
    }

    /** Whether m is a method of component c, or stands for the component itself. */
    private boolean isPlace(int c, int m) {
        return isComponent(c) && m >= OWN && m < METHODS;
    }

    private boolean hasChain(int c, int m) {
        return isComponent(c) && m >= 0 && m < METHODS_AND_EVENTS;
    }

    private int addBinding(Bindings bindings, int type, int value) {
        if (bindings.isFull()) {
            return FULL;
        }
        bindings.add(type, types.valueThatMatters(type, value));
        return 0;
    }

    private int findConflictOfInterceptor() {
        for (int i = 0; i < interceptorCount; i++) {
            if (hasConflict(interceptors[i].bindings)) {
                return CONFLICT_OF_INTERCEPTOR + i;
            }
        }
        return 0;
    }

    private int findConflictOfComponent() {
        for (int c = 0; c < componentCount; c++) {
            if (hasConflict(components[c].own.bindings)) {
                return CONFLICT_OF_COMPONENT + 8 * c;
            }
            for (int m = 0; m < METHODS; m++) {
                if (hasConflict(components[c].place(m).bindings)) {
                    return CONFLICT_OF_METHOD + 8 * c + m;
                }
            }
        }
        return 0;
    }

    private boolean hasConflict(Bindings bindings) {
        types.close(bindings, closure);
        return closure.conflict;
    }

    private int findFinalWithChain() {
        for (int c = 0; c < componentCount; c++) {
            for (int m = 0; m < METHODS; m++) {
                if (components[c].place(m).has(FINAL)) {
                    buildChain(components[c], m);
                    if (chain.count > 1) {
                        return FINAL_WITH_CHAIN + 4 * c + m;
                    }
                }
            }
        }
        return 0;
    }

    /** Only for declarations without a conflict: a closure keeps one value a type. */
    private void buildChain(Component owner, int m) {
        chain.count = 0;
        if (m >= METHODS) {
            int kind = MAKING << (m - METHODS);
            types.close(owner.own.bindings, inForce);
            appendListed(owner.own, kind);
            appendBound(kind);
        } else {
            Place method = owner.place(m);
            findInForceForMethod(owner, method);
            if (!method.has(ALONE)) {
                appendListed(owner.own, AROUND);
            }
            appendListed(method, AROUND);
            appendBound(AROUND);
            appendDecorators(owner.types, m);
        }
        chain.add(TARGET, PASSES);
    }

    private void findInForceForMethod(Component owner, Place method) {
        types.close(method.bindings, inForce);
        types.close(owner.own.bindings, closure);
        inForce.addMissingTypes(closure);
    }

    private void appendListed(Place place, int kind) {
        for (int k = 0; k < place.listedCount; k++) {
            int i = place.listed[k];
            if (interceptors[i].takesPartIn(kind)) {
                chain.add(i, interceptors[i].behaviour);
            }
        }
    }

    /** Priority 0 means not enabled, so the search begins at 1. */
    private void appendBound(int kind) {
        for (int priority = 1; priority <= LAST_PRIORITY; priority++) {
            for (int i = 0; i < interceptorCount; i++) {
                Interceptor one = interceptors[i];
                if (one.priority == priority && one.takesPartIn(kind) && isInForce(one.bindings)) {
                    chain.add(i, one.behaviour);
                }
            }
        }
    }

    private boolean isInForce(Bindings bindings) {
        types.close(bindings, closure);
        return bindings.count > 0 && closure.isAmong(inForce);
    }

    private void appendDecorators(int ownerTypes, int m) {
        for (int priority = 1; priority <= LAST_PRIORITY; priority++) {
            for (int d = 0; d < decoratorCount; d++) {
                if (decorators[d].priority == priority && decorators[d].decorates(ownerTypes, m)) {
                    chain.add(FIRST_DECORATOR + d, decorators[d].behaviour);
                }
            }
        }
    }

    /** Bindings as they were declared, equal ones too, in a row that does not grow. */
    private static final class Bindings {
        int count;
        final int[] types;
        final int[] values;

        Bindings(int room) {
            types = new int[room];
            values = new int[room];
        }

        boolean isFull() {
            return count >= types.length;
        }

        void add(int type, int value) {
            if (isFull()) {
                return;
            }
            types[count] = type;
            values[count] = value;
            count++;
        }
    }

    /**
     * The closure of some bindings: for each type in it one value. Which types are reached does not
     * depend on values, so a second value of a type need not be kept: that there was one is enough.
     */
    private static final class Closure {
        final boolean[] reached = new boolean[MOST_TYPES];
        final int[] values = new int[MOST_TYPES];
        boolean conflict;

        void forget() {
            for (int type = 0; type < MOST_TYPES; type++) {
                reached[type] = false;
            }
            conflict = false;
        }

        void put(int type, int value) {
            if (!reached[type]) {
                reached[type] = true;
                values[type] = value;
            } else if (values[type] != value) {
                conflict = true;
            }
        }

        void addMissingTypes(Closure other) {
            for (int type = 0; type < MOST_TYPES; type++) {
                if (other.reached[type] && !reached[type]) {
                    put(type, other.values[type]);
                }
            }
        }

        boolean isAmong(Closure other) {
            for (int type = 0; type < MOST_TYPES; type++) {
                if (reached[type] && !(other.reached[type] && other.values[type] == values[type])) {
                    return false;
                }
            }
            return true;
        }
    }

    private static final class BindingTypes {
        int count;
        final boolean[] matters = new boolean[MOST_TYPES];
        final int[] carriers = new int[MOST_CARRIED];
        final Bindings carried = new Bindings(MOST_CARRIED);

        void forget() {
            count = 0;
            carried.count = 0;
        }

        boolean has(int type) {
            return type >= 0 && type < count;
        }

        int declare(boolean valueMatters) {
            matters[count] = valueMatters;
            count++;
            return count - 1;
        }

        int valueThatMatters(int type, int value) {
            return matters[type] ? value : 0;
        }

        void addCarried(int carrier, int type, int value) {
            carriers[carried.count] = carrier;
            carried.add(type, valueThatMatters(type, value));
        }

        void close(Bindings from, Closure into) {
            into.forget();
            for (int k = 0; k < from.count; k++) {
                into.put(from.types[k], from.values[k]);
            }
            // Every round but the last reaches a new type, so as many rounds as types are enough.
            for (int round = 0; round < count; round++) {
                for (int k = 0; k < carried.count; k++) {
                    if (into.reached[carriers[k]]) {
                        into.put(carried.types[k], carried.values[k]);
                    }
                }
            }
        }
    }

    private static final class Interceptor {
        int priority;
        int kinds;
        int behaviour;
        final Bindings bindings = new Bindings(MOST_BINDINGS);

        void declare(int itsPriority, int itsKinds, int itsBehaviour) {
            priority = itsPriority;
            kinds = itsKinds;
            behaviour = itsBehaviour;
            bindings.count = 0;
        }

        boolean takesPartIn(int kind) {
            return (kinds & kind) != 0;
        }
    }

    private static final class Decorator {
        int priority;
        int type;
        int methods;
        int behaviour;

        void declare(int itsPriority, int itsType, int itsMethods, int itsBehaviour) {
            priority = itsPriority;
            type = itsType;
            methods = itsMethods;
            behaviour = itsBehaviour;
        }

        boolean decorates(int ownerTypes, int m) {
            return (ownerTypes >> type & 1) != 0 && (methods >> m & 1) != 0;
        }
    }

    /** What can be bound and have a list: a method of a component, or a component itself. */
    private static final class Place {
        final Bindings bindings = new Bindings(MOST_BINDINGS);
        final int[] listed = new int[MOST_LISTED];
        int listedCount;
        int flags;

        void forget() {
            bindings.count = 0;
            listedCount = 0;
            flags = 0;
        }

        void addListed(int i) {
            listed[listedCount] = i;
            listedCount++;
        }

        boolean has(int flag) {
            return (flags & flag) != 0;
        }
    }

    private static final class Component {
        int types;
        final Place own = new Place();
        final Place[] methods = new Place[METHODS];

        Component() {
            for (int m = 0; m < METHODS; m++) {
                methods[m] = new Place();
            }
        }

        void declare(int itsTypes) {
            types = itsTypes;
            own.forget();
            for (int m = 0; m < METHODS; m++) {
                methods[m].forget();
            }
        }

        Place place(int m) {
            return m < 0 || m >= METHODS ? own : methods[m];
        }
    }

    private static final class Chain {
        int count;
        final int[] elements = new int[MOST_ELEMENTS];
        final int[] behaviours = new int[MOST_ELEMENTS];

        void add(int number, int behaviour) {
            if (count >= MOST_ELEMENTS) {
                return;
            }
            elements[count] = number;
            behaviours[count] = behaviour;
            count++;
        }
    }

    /** The latest invocation or event. While it runs, thrown is the error on its way, or 0. */
    private static final class Invocation {
        final int[] entries = new int[MOST_LOGGED];
        int logged;
        int returned;
        int thrown;
        private int method;
        private boolean failing;
        private int shared;

        void forget() {
            logged = 0;
            returned = 0;
            thrown = 0;
        }

        void run(Chain chain, int m, int argument, boolean targetFails) {
            forget();
            method = m;
            failing = targetFails;
            shared = argument;
            int got = enter(chain, 0, argument);
            returned = thrown == 0 ? got : 0;
        }

        /**
         * Answers what the element returns; when it throws, the answer means nothing. The position
         * is the depth of the recursion, and the length of the chain its limit.
         */
        private int enter(Chain chain, int position, int given) {
            if (position < 0 || position >= chain.count) {
                return 0;
            }
            if (logged >= MOST_LOGGED) {
                return fail(LOG_IS_FULL);
            }
            int element = chain.elements[position];
            entries[logged] = element;
            logged++;
            return element == TARGET ? reachTarget(given) : behave(chain, position, given);
        }

        private int fail(int error) {
            thrown = error;
            return 0;
        }

        private int reachTarget(int given) {
            if (method >= METHODS) {
                return EVENT_RESULT;
            }
            return failing ? fail(FIRST_ERROR_OF_TARGET + method) : 3 * given + method;
        }

        private int behave(Chain chain, int position, int given) {
            int element = chain.elements[position];
            boolean intercepts = element < FIRST_DECORATOR;
            switch (chain.behaviours[position]) {
                case DOUBLES:
                    return proceedTwice(chain, position, given);
                case STOPS:
                    return intercepts ? shared : given;
                case GROWS:
                    return intercepts ? growShared(chain, position)
                            : 2 * proceed(chain, position, given + 1);
                case THROWS:
                    return fail(FIRST_ERROR_OF_ELEMENT + element);
                case CATCHES:
                    return proceedAndCatch(chain, position, given);
                default:
                    return proceed(chain, position, given);
            }
        }

        /** An interceptor hands on the shared argument as it is now, a decorator its own. */
        private int proceed(Chain chain, int position, int own) {
            boolean intercepts = chain.elements[position] < FIRST_DECORATOR;
            return enter(chain, position + 1, intercepts ? shared : own);
        }

        private int proceedTwice(Chain chain, int position, int own) {
            int first = proceed(chain, position, own);
            if (thrown != 0) {
                return 0;
            }
            return first + proceed(chain, position, own);
        }

        private int growShared(Chain chain, int position) {
            if (method >= METHODS) {
                return fail(GROWN_IN_EVENT);
            }
            shared++;
            return 2 * proceed(chain, position, shared);
        }

        private int proceedAndCatch(Chain chain, int position, int own) {
            int got = proceed(chain, position, own);
            // No element throws the error of a full log: it ends the invocation, past all catching.
            if (thrown == 0 || thrown == LOG_IS_FULL) {
                return got;
            }
            int caught = thrown;
            thrown = 0;
            return -caught;
        }
    }
}
