import java.util.ArrayList;
import java.util.Comparator;
import java.util.HashSet;
import java.util.List;
import java.util.Set;

/** The document's words, followed as literally as the Java library allows, to compare with. */
final class Model {
    private static final int CLOSED = -2;
    private static final int NOTHING = -3;
    private static final int BAD = -4;
    private static final int FULL = -5;
    private static final int OPEN = -6;

    private record Binding(int type, int value) {
    }

    private record Type(boolean matters, List<Binding> carried) {
    }

    private record Interceptor(int number, int priority, int kinds, int behaviour,
            List<Binding> bindings) {
    }

    private record Decorator(int number, int priority, int type, int methods, int behaviour) {
    }

    private record Component(int types, List<List<Binding>> bindings, List<List<Integer>> lists,
            int[] flags) {
    }

    private static final class Thrown extends Exception {
        private static final long serialVersionUID = 1;
        final int error;

        Thrown(int error) {
            super(null, null, false, false);
            this.error = error;
        }
    }

    private static final class Ended extends RuntimeException {
        private static final long serialVersionUID = 1;

        Ended() {
            super(null, null, false, false);
        }
    }

    private final List<Type> types = new ArrayList<>();
    private final List<Interceptor> interceptors = new ArrayList<>();
    private final List<Decorator> decorators = new ArrayList<>();
    private final List<Component> components = new ArrayList<>();
    private final List<Integer> entries = new ArrayList<>();
    private boolean deployed;
    private int result;
    private int error;
    private int shared;

    void clear() {
        types.clear();
        interceptors.clear();
        decorators.clear();
        components.clear();
        entries.clear();
        deployed = false;
        result = 0;
        error = 0;
    }

    int binding(boolean matters) {
        if (deployed) {
            return CLOSED;
        }
        return types.size() == 8 ? FULL : added(types, new Type(matters, new ArrayList<>()));
    }

    int carry(int b, int c, int v) {
        if (deployed) {
            return CLOSED;
        }
        if (isNot(types, b) || isNot(types, c)) {
            return NOTHING;
        }
        if (types.stream().mapToInt(t -> t.carried.size()).sum() == 16) {
            return FULL;
        }
        types.get(b).carried.add(made(c, v));
        return 0;
    }

    int interceptor(int priority, int kinds, int behaviour) {
        if (deployed) {
            return CLOSED;
        }
        if (priority < 0 || priority > 9 || kinds < 0 || kinds > 15 || behaviour < 0
                || behaviour > 5) {
            return BAD;
        }
        return interceptors.size() == 8 ? FULL : added(interceptors, new Interceptor(
            interceptors.size(), priority, kinds, behaviour, new ArrayList<>()));
    }

    int decorator(int priority, int type, int methods, int behaviour) {
        if (deployed) {
            return CLOSED;
        }
        if (priority < 0 || priority > 9 || type < 0 || type > 7 || methods < 0 || methods > 15
                || behaviour < 0 || behaviour > 5) {
            return BAD;
        }
        return decorators.size() == 4 ? FULL : added(decorators, new Decorator(
            decorators.size(), priority, type, methods, behaviour));
    }

    int component(int itsTypes) {
        if (deployed) {
            return CLOSED;
        }
        if (itsTypes < 0 || itsTypes > 255) {
            return BAD;
        }
        if (components.size() == 4) {
            return FULL;
        }
        List<List<Binding>> bindings = new ArrayList<>();
        List<List<Integer>> lists = new ArrayList<>();
        for (int m = -1; m < 4; m++) {
            bindings.add(new ArrayList<>());
            lists.add(new ArrayList<>());
        }
        return added(components, new Component(itsTypes, bindings, lists, new int[4]));
    }

    int bindInterceptor(int i, int b, int v) {
        if (deployed) {
            return CLOSED;
        }
        if (isNot(interceptors, i) || isNot(types, b)) {
            return NOTHING;
        }
        return addedToFour(interceptors.get(i).bindings, made(b, v));
    }

    int bind(int component, int m, int b, int v) {
        if (deployed) {
            return CLOSED;
        }
        if (isNot(components, component) || isNot(types, b) || m < -1 || m > 3) {
            return NOTHING;
        }
        return addedToFour(components.get(component).bindings.get(m + 1), made(b, v));
    }

    int list(int component, int m, int i) {
        if (deployed) {
            return CLOSED;
        }
        if (isNot(components, component) || isNot(interceptors, i) || m < -1 || m > 3) {
            return NOTHING;
        }
        return addedToFour(components.get(component).lists.get(m + 1), i);
    }

    int flags(int component, int m, int what) {
        if (deployed) {
            return CLOSED;
        }
        if (isNot(components, component) || m < 0 || m > 3) {
            return NOTHING;
        }
        if (what < 0 || what > 7) {
            return BAD;
        }
        components.get(component).flags[m] = what;
        return 0;
    }

    int deploy() {
        if (deployed) {
            return CLOSED;
        }
        for (Interceptor one : interceptors) {
            if (hasConflict(one.bindings)) {
                return 100 + one.number;
            }
        }
        for (int b = 0; b < components.size(); b++) {
            for (int m = -1; m < 4; m++) {
                if (hasConflict(components.get(b).bindings.get(m + 1))) {
                    return 201 + 8 * b + m;
                }
            }
        }
        for (int b = 0; b < components.size(); b++) {
            for (int m = 0; m < 4; m++) {
                if (components.get(b).flags[m] % 2 == 1 && chain(b, m).size() > 1) {
                    return 300 + 4 * b + m;
                }
            }
        }
        deployed = true;
        return 0;
    }

    int length(int component, int m) {
        if (!deployed) {
            return OPEN;
        }
        return isNot(components, component) || m < 0 || m > 6 ? NOTHING
            : chain(component, m).size();
    }

    int element(int component, int m, int k) {
        int length = length(component, m);
        if (length < 0) {
            return length;
        }
        return k < 0 || k >= length ? NOTHING : chain(component, m).get(k);
    }

    int invoke(int component, int m, int argument) {
        int length = length(component, m);
        if (length < 0) {
            return length;
        }
        entries.clear();
        result = 0;
        error = 0;
        shared = m > 3 ? 0 : argument;
        boolean fails = m < 4 && components.get(component).flags[m] >= 4;
        try {
            result = enter(chain(component, m), m, fails, shared);
        } catch (Thrown thrown) {
            error = thrown.error;
        } catch (Ended ended) {
            error = 99;
        }
        return entries.size();
    }

    int result() {
        return result;
    }

    int error() {
        return error;
    }

    int log(int k) {
        return isNot(entries, k) ? NOTHING : entries.get(k);
    }

    private static boolean isNot(List<?> things, int number) {
        return number < 0 || number >= things.size();
    }

    private static <T> int added(List<T> things, T thing) {
        things.add(thing);
        return things.size() - 1;
    }

    private static <T> int addedToFour(List<T> things, T thing) {
        if (things.size() == 4) {
            return FULL;
        }
        things.add(thing);
        return 0;
    }

    private Binding made(int type, int value) {
        return new Binding(type, types.get(type).matters ? value : 0);
    }

    private Set<Binding> closure(List<Binding> bindings) {
        Set<Binding> all = new HashSet<>(bindings);
        boolean grew = true;
        while (grew) {
            Set<Binding> more = new HashSet<>();
            all.forEach(one -> more.addAll(types.get(one.type).carried));
            grew = all.addAll(more);
        }
        return all;
    }

    private boolean hasConflict(List<Binding> bindings) {
        Set<Binding> all = closure(bindings);
        return all.stream().map(Binding::type).distinct().count() < all.size();
    }

    private Set<Binding> inForce(Component owner, int m) {
        Set<Binding> own = closure(owner.bindings.get(0));
        if (m > 3) {
            return own;
        }
        Set<Binding> all = closure(owner.bindings.get(m + 1));
        own.removeIf(one -> all.stream().anyMatch(other -> other.type == one.type));
        all.addAll(own);
        return all;
    }

    private List<Integer> chain(int component, int m) {
        Component owner = components.get(component);
        List<Integer> all = new ArrayList<>();
        if (m > 3 || (owner.flags[m] & 2) == 0) {
            all.addAll(owner.lists.get(0));
        }
        if (m < 4) {
            all.addAll(owner.lists.get(m + 1));
        }
        Set<Binding> inForce = inForce(owner, m);
        interceptors.stream()
            .filter(one -> one.priority > 0 && !one.bindings.isEmpty()
                && inForce.containsAll(closure(one.bindings)))
            .sorted(Comparator.comparingInt(Interceptor::priority))
            .forEach(one -> all.add(one.number));
        int[] kinds = {1, 1, 1, 1, 2, 4, 8};
        all.removeIf(i -> (interceptors.get(i).kinds & kinds[m]) == 0);
        if (m < 4) {
            decorators.stream()
                .filter(one -> one.priority > 0 && (one.methods & 1 << m) != 0
                    && (owner.types & 1 << one.type) != 0)
                .sorted(Comparator.comparingInt(Decorator::priority))
                .forEach(one -> all.add(16 + one.number));
        }
        all.add(32);
        return all;
    }

    private int enter(List<Integer> rest, int m, boolean fails, int given) throws Thrown {
        if (entries.size() == 64) {
            throw new Ended();
        }
        int first = rest.get(0);
        entries.add(first);
        List<Integer> next = rest.subList(1, rest.size());
        if (first == 32) {
            if (m > 3) {
                return 7;
            }
            if (fails) {
                throw new Thrown(33 + m);
            }
            return 3 * given + m;
        }
        return first < 16 ? intercept(interceptors.get(first), next, m, fails)
            : decorate(decorators.get(first - 16), next, m, fails, given);
    }

    private int intercept(Interceptor one, List<Integer> next, int m, boolean fails)
            throws Thrown {
        switch (one.behaviour) {
            case 0:
                return enter(next, m, fails, shared);
            case 1:
                int first = enter(next, m, fails, shared);
                return first + enter(next, m, fails, shared);
            case 2:
                return shared;
            case 3:
                if (m > 3) {
                    throw new Thrown(50);
                }
                shared++;
                return 2 * enter(next, m, fails, shared);
            case 4:
                throw new Thrown(1 + one.number);
            default:
                try {
                    return enter(next, m, fails, shared);
                } catch (Thrown thrown) {
                    return -thrown.error;
                }
        }
    }

    private int decorate(Decorator one, List<Integer> next, int m, boolean fails, int own)
            throws Thrown {
        switch (one.behaviour) {
            case 0:
                return enter(next, m, fails, own);
            case 1:
                int first = enter(next, m, fails, own);
                return first + enter(next, m, fails, own);
            case 2:
                return own;
            case 3:
                return 2 * enter(next, m, fails, own + 1);
            case 4:
                throw new Thrown(17 + one.number);
            default:
                try {
                    return enter(next, m, fails, own);
                } catch (Thrown thrown) {
                    return -thrown.error;
                }
        }
    }
}
