/** Promise 12: what deployment finds, in which order, and that finding something changes nothing. */
final class DeployTest {
    public static void main(String[] args) {
        conflictOfInterceptor();
        conflictOfComponent();
        conflictOfMethod();
        conflictThroughCarrying();
        longCarrying();
        noConflict();
        finalMethods();
        order();
        moreMayBeDeclared();
        Due.end();
    }

    private static BoundChains withTypes(int count) {
        BoundChains x = new BoundChains();
        for (int b = 0; b < count; b++) {
            x.binding(true);
        }
        return x;
    }

    private static void conflictOfInterceptor() {
        for (int i = 0; i < 8; i++) {
            BoundChains x = withTypes(1);
            for (int k = 0; k < 8; k++) {
                x.interceptor(0, 0, 0);
            }
            for (int k = i; k < 8; k++) {
                x.bindInterceptor(k, 0, 1);
                x.bindInterceptor(k, 0, 2);
            }
            Due.is("interceptors from " + i + ", not enabled", x.deploy(), 100 + i);
        }
    }

    private static void conflictOfComponent() {
        for (int c = 0; c < 4; c++) {
            BoundChains x = withTypes(1);
            for (int k = 0; k < 4; k++) {
                x.component(0);
            }
            for (int k = c; k < 4; k++) {
                x.bind(k, -1, 0, 1);
                x.bind(k, -1, 0, -1);
                x.bind(k, 0, 0, 1);
                x.bind(k, 0, 0, -1);
            }
            Due.is("components from " + c, x.deploy(), 200 + 8 * c);
        }
    }

    private static void conflictOfMethod() {
        for (int c = 0; c < 4; c++) {
            for (int m = 0; m < 4; m++) {
                BoundChains x = withTypes(1);
                for (int k = 0; k < 4; k++) {
                    x.component(0);
                }
                x.bind(c, m, 0, 0);
                x.bind(c, m, 0, 1);
                if (m < 3) {
                    x.bind(c, m + 1, 0, 0);
                    x.bind(c, m + 1, 0, 1);
                }
                if (c < 3) {
                    x.bind(c + 1, -1, 0, 0);
                    x.bind(c + 1, -1, 0, 1);
                }
                Due.is("method " + m + " of " + c, x.deploy(), 201 + 8 * c + m);
            }
        }
    }

    private static void conflictThroughCarrying() {
        BoundChains self = withTypes(1);
        self.carry(0, 0, 5);
        self.component(0);
        self.bind(0, 3, 0, 5);
        self.bind(0, -1, 0, 4);
        Due.is("a type that carries itself", self.deploy(), 200);

        BoundChains twice = withTypes(2);
        twice.carry(0, 1, 5);
        twice.carry(0, 1, 6);
        twice.component(0);
        twice.bind(0, -1, 1, 6);
        twice.bind(0, 2, 0, 0);
        Due.is("a type that carries two values", twice.deploy(), 203);

        BoundChains meeting = withTypes(3);
        meeting.carry(0, 2, 5);
        meeting.carry(1, 2, 6);
        meeting.interceptor(0, 0, 0);
        meeting.bindInterceptor(0, 0, 0);
        meeting.bindInterceptor(0, 1, 0);
        Due.is("two types that carry different values", meeting.deploy(), 100);

        BoundChains without = new BoundChains();
        without.binding(false);
        without.carry(0, 0, 5);
        without.component(0);
        without.bind(0, -1, 0, 4);
        without.bind(0, -1, 0, 3);
        Due.is("values that do not matter", without.deploy(), 0);
    }

    /** All types in one ring, gone round in both orders: one of them needs a pass for each type. */
    private static void longCarrying() {
        for (int last = 0; last < 2; last++) {
            BoundChains x = withTypes(8);
            for (int b = 1; b < 8; b++) {
                x.carry(b - 1, b, b);
            }
            x.carry(7, 0, last);
            x.component(0);
            x.bind(0, 0, 0, 1);
            Due.is("upwards, and back with " + last, x.deploy(), last == 1 ? 0 : 201);
            BoundChains y = withTypes(8);
            y.carry(0, 7, last);
            for (int b = 1; b < 8; b++) {
                y.carry(b, b - 1, b);
            }
            y.component(0);
            y.bind(0, 0, 7, 1);
            Due.is("downwards, and back with " + last, y.deploy(), last == 1 ? 0 : 201);
        }
    }

    private static void noConflict() {
        BoundChains x = withTypes(3);
        x.carry(0, 1, 5);
        x.carry(1, 0, 4);
        x.carry(2, 2, 1);
        x.carry(2, 2, 2);
        x.component(0);
        x.interceptor(1, 1, 0);
        x.bindInterceptor(0, 0, 4);
        x.bindInterceptor(0, 0, 4);
        x.bind(0, -1, 1, 5);
        x.bind(0, 0, 0, 4);
        x.bind(0, 1, 1, 5);
        Due.is("a ring without conflict, and a conflict of a type that nobody has", x.deploy(), 0);
        BoundChains y = withTypes(1);
        y.component(0);
        y.bind(0, -1, 0, 1);
        y.bind(0, 0, 0, 2);
        Due.is("method against component is none", y.deploy(), 0);
    }

    private static void finalMethods() {
        for (int c = 0; c < 4; c++) {
            for (int m = 0; m < 4; m++) {
                BoundChains x = new BoundChains();
                x.interceptor(0, 1, 0);
                for (int k = 0; k < 4; k++) {
                    x.component(0);
                    x.flags(k, m, 1);
                }
                x.list(c, m, 0);
                Due.is("final " + m + " of " + c, x.deploy(), 300 + 4 * c + m);
            }
        }
        BoundChains bound = withTypes(1);
        bound.component(0);
        bound.interceptor(1, 1, 0);
        bound.bindInterceptor(0, 0, 1);
        bound.bind(0, -1, 0, 1);
        bound.flags(0, 2, 1);
        Due.is("final and bound", bound.deploy(), 302);
        BoundChains decorated = new BoundChains();
        decorated.component(2);
        decorated.decorator(1, 1, 8, 0);
        decorated.flags(0, 3, 1);
        Due.is("final and decorated", decorated.deploy(), 303);
        BoundChains event = new BoundChains();
        event.component(2);
        event.interceptor(1, 14, 0);
        event.list(0, -1, 0);
        event.list(0, 3, 0);
        event.decorator(1, 1, 7, 0);
        event.decorator(1, 2, 15, 0);
        event.decorator(0, 1, 15, 0);
        event.flags(0, 3, 1);
        Due.is("final, and nothing before the method", event.deploy(), 0);
    }

    private static void order() {
        BoundChains x = withTypes(1);
        x.interceptor(1, 1, 0);
        x.interceptor(1, 1, 0);
        x.component(0);
        x.component(0);
        x.list(0, 0, 0);
        x.flags(0, 0, 1);
        Due.is("final", x.deploy(), 300);
        x.bind(1, 3, 0, 1);
        x.bind(1, 3, 0, 2);
        Due.is("a conflict of the last method before final", x.deploy(), 212);
        x.bind(1, -1, 0, 1);
        x.bind(1, -1, 0, 2);
        Due.is("a conflict of the component before its methods", x.deploy(), 208);
        x.bind(0, 3, 0, 1);
        x.bind(0, 3, 0, 2);
        Due.is("a conflict of an earlier component's method", x.deploy(), 204);
        x.bindInterceptor(1, 0, 1);
        x.bindInterceptor(1, 0, 2);
        Due.is("a conflict of an interceptor before all", x.deploy(), 101);
    }

    private static void moreMayBeDeclared() {
        BoundChains x = withTypes(1);
        x.component(0);
        x.interceptor(1, 1, 0);
        x.list(0, 0, 0);
        x.flags(0, 0, 1);
        Due.is("found", x.deploy(), 300);
        Due.is("found again", x.deploy(), 300);
        Due.is("still open", x.length(0, 0), BoundChains.OPEN);
        Due.is("still open to element", x.element(0, 0, 0), BoundChains.OPEN);
        Due.is("still open to invoke", x.invoke(0, 0, 0), BoundChains.OPEN);
        Due.is("more is declared", x.binding(true), 1);
        Due.is("mended", x.flags(0, 0, 0), 0);
        Due.is("deployed", x.deploy(), 0);
        Due.is("deployed already", x.deploy(), BoundChains.CLOSED);
        Due.chainIs("kept", x, 0, 0, 0, 32);
    }
}
