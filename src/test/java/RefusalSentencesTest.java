import java.util.ArrayList;
import java.util.List;
import java.util.function.ToIntFunction;

/** The sentences on the codes: their order, and that a refused call changes nothing. */
final class RefusalSentencesTest {
    private static final int CLOSED = BoundChains.CLOSED;
    private static final int NOTHING = BoundChains.NOTHING;
    private static final int BAD = BoundChains.BAD;
    private static final int FULL = BoundChains.FULL;
    private static final int OPEN = BoundChains.OPEN;

    public static void main(String[] args) {
        Sentences.test(RefusalSentencesTest.class);
    }

    /** A call, with what it answers where it is refused. */
    private record Call(String name, int due, ToIntFunction<BoundChains> made) {
    }

    /** Everything there can be, none of it in conflict; the log of an invocation will be full. */
    private static BoundChains filled() {
        BoundChains x = new BoundChains();
        for (int b = 0; b < 8; b++) {
            x.binding(b != 7);
        }
        for (int k = 0; k < 16; k++) {
            x.carry(k % 4, 4 + k % 4, 14 + k % 4);
        }
        int[] behaviours = {0, 1, 3, 5, 1, 0, 3, 1};
        for (int i = 0; i < 8; i++) {
            x.interceptor(i % 4, 15 - i, behaviours[i]);
        }
        for (int d = 0; d < 4; d++) {
            x.decorator(d, d, 15 - d, d == 3 ? 3 : d);
        }
        for (int c = 0; c < 4; c++) {
            x.component(15 - c);
        }
        for (int k = 0; k < 4; k++) {
            for (int i = 0; i < 8; i++) {
                x.bindInterceptor(i, k, 10 + k);
            }
            for (int c = 0; c < 4; c++) {
                for (int m = -1; m < 4; m++) {
                    x.bind(c, m, k, 10 + k);
                    x.list(c, m, (c + m + k + 1) % 8);
                }
            }
        }
        for (int c = 0; c < 4; c++) {
            x.flags(c, c, 6);
        }
        return x;
    }

    /** Something of everything, with room for more; a second value would be a conflict. */
    private static BoundChains halfFilled() {
        BoundChains x = new BoundChains();
        x.binding(true);
        x.binding(false);
        x.carry(0, 1, 3);
        x.interceptor(2, 15, 3);
        x.interceptor(1, 15, 0);
        x.decorator(1, 0, 15, 3);
        x.component(1);
        x.component(2);
        x.bindInterceptor(0, 0, 5);
        x.bindInterceptor(1, 1, 5);
        x.bind(0, -1, 0, 5);
        x.bind(1, 2, 1, 5);
        x.list(0, -1, 1);
        x.list(1, 3, 0);
        x.flags(0, 0, 4);
        x.flags(0, 1, 2);
        return x;
    }

    private static BoundChains deployed(BoundChains x) {
        Due.is("deploy", x.deploy(), 0);
        return x;
    }

    private static BoundChains invoked(BoundChains x, int m) {
        x.invoke(0, m, 1000);
        return x;
    }

    /** Builds a set of declarations as often as it is wanted. */
    private interface Maker {
        BoundChains make();
    }

    /** What can be seen of the latest invocation, without changing anything. */
    private static void seeInvocation(BoundChains x, List<Integer> seen) {
        seen.add(x.result());
        seen.add(x.error());
        for (int k = -1; k < 66; k++) {
            seen.add(x.log(k));
        }
    }

    /** How much room is left everywhere; what is open is declared until it is full. */
    private static void seeRoom(BoundChains x, List<Integer> seen) {
        fill(seen, () -> x.binding(true));
        fill(seen, () -> x.carry(0, 0, 5));
        fill(seen, () -> x.interceptor(1, 15, 0));
        fill(seen, () -> x.decorator(1, 0, 15, 0));
        fill(seen, () -> x.component(1));
        for (int i = 0; i < 8; i++) {
            int one = i;
            fill(seen, () -> x.bindInterceptor(one, 0, 5));
        }
        for (int place = 0; place < 20; place++) {
            int c = place / 5;
            int m = place % 5 - 1;
            fill(seen, () -> x.bind(c, m, 0, 5));
            fill(seen, () -> x.list(c, m, 0));
        }
    }

    private interface Declaring {
        int make();
    }

    private static void fill(List<Integer> seen, Declaring call) {
        for (int k = 0; k < 20; k++) {
            int answer = call.make();
            seen.add(answer);
            if (answer < 0) {
                return;
            }
        }
    }

    /** The chains of a component and what invocations of it do; open declarations are deployed. */
    private static void seeChains(BoundChains x, int component, List<Integer> seen) {
        seen.add(x.deploy());
        for (int m = 0; m < 7; m++) {
            int length = x.length(component, m);
            seen.add(length);
            for (int k = 0; k < length; k++) {
                seen.add(x.element(component, m, k));
            }
            seen.add(x.invoke(component, m, 100));
            seen.add(x.result());
            seen.add(x.error());
        }
    }

    private static List<Integer> see(BoundChains x, int view) {
        List<Integer> seen = new ArrayList<>();
        if (view == 4) {
            seeRoom(x, seen);
        } else if (view == 5) {
            seeInvocation(x, seen);
        } else {
            seeChains(x, view, seen);
        }
        return seen;
    }

    /** Each call is made of an object whose like is left alone; then both are looked at. */
    private static void changesNothing(String state, Maker maker, List<Call> calls) {
        for (int view = 0; view < 6; view++) {
            List<Integer> due = see(maker.make(), view);
            for (Call call : calls) {
                BoundChains x = maker.make();
                Due.is(state + ": " + call.name, call.made.applyAsInt(x), call.due);
                Due.is(state + ": " + call.name + " changes nothing to be seen in view " + view,
                    see(x, view).equals(due) ? 1 : 0, 1);
            }
        }
    }

    /** Declaring calls that are well formed in every state but an empty one. */
    private static List<Call> declaring(int due) {
        return List.of(
            new Call("binding(true)", due, x -> x.binding(true)),
            new Call("carry(0, 0, 9)", due, x -> x.carry(0, 0, 9)),
            new Call("interceptor(1, 15, 4)", due, x -> x.interceptor(1, 15, 4)),
            new Call("decorator(1, 0, 15, 4)", due, x -> x.decorator(1, 0, 15, 4)),
            new Call("component(3)", due, x -> x.component(3)),
            new Call("bindInterceptor(0, 0, 9)", due, x -> x.bindInterceptor(0, 0, 9)),
            new Call("bind(0, -1, 0, 9)", due, x -> x.bind(0, -1, 0, 9)),
            new Call("bind(1, 3, 0, 9)", due, x -> x.bind(1, 3, 0, 9)),
            new Call("list(0, -1, 0)", due, x -> x.list(0, -1, 0)),
            new Call("list(1, 3, 1)", due, x -> x.list(1, 3, 1)));
    }

    /** Calls that name something that is nowhere. */
    private static List<Call> naming(int due) {
        return List.of(
            new Call("carry(8, 0, 9)", due, x -> x.carry(8, 0, 9)),
            new Call("carry(0, -1, 9)", due, x -> x.carry(0, -1, 9)),
            new Call("bindInterceptor(8, 0, 9)", due, x -> x.bindInterceptor(8, 0, 9)),
            new Call("bindInterceptor(0, 8, 9)", due, x -> x.bindInterceptor(0, 8, 9)),
            new Call("bind(4, 0, 0, 9)", due, x -> x.bind(4, 0, 0, 9)),
            new Call("bind(0, 4, 0, 9)", due, x -> x.bind(0, 4, 0, 9)),
            new Call("bind(0, -2, 0, 9)", due, x -> x.bind(0, -2, 0, 9)),
            new Call("bind(0, 0, 8, 9)", due, x -> x.bind(0, 0, 8, 9)),
            new Call("list(4, 0, 0)", due, x -> x.list(4, 0, 0)),
            new Call("list(0, 4, 0)", due, x -> x.list(0, 4, 0)),
            new Call("list(0, -2, 0)", due, x -> x.list(0, -2, 0)),
            new Call("list(0, 0, 8)", due, x -> x.list(0, 0, 8)),
            new Call("flags(4, 0, 7)", due, x -> x.flags(4, 0, 7)),
            new Call("flags(0, 4, 7)", due, x -> x.flags(0, 4, 7)),
            new Call("flags(0, -1, 7)", due, x -> x.flags(0, -1, 7)),
            new Call("flags(-1, -1, 8)", due, x -> x.flags(-1, -1, 8)));
    }

    /** Calls with a number that is too small or too large. */
    private static List<Call> exceeding(int due) {
        return List.of(
            new Call("interceptor(10, 15, 4)", due, x -> x.interceptor(10, 15, 4)),
            new Call("interceptor(1, 16, 4)", due, x -> x.interceptor(1, 16, 4)),
            new Call("interceptor(1, 15, 6)", due, x -> x.interceptor(1, 15, 6)),
            new Call("interceptor(-1, 15, 4)", due, x -> x.interceptor(-1, 15, 4)),
            new Call("decorator(10, 0, 15, 4)", due, x -> x.decorator(10, 0, 15, 4)),
            new Call("decorator(1, 8, 15, 4)", due, x -> x.decorator(1, 8, 15, 4)),
            new Call("decorator(1, 0, 16, 4)", due, x -> x.decorator(1, 0, 16, 4)),
            new Call("decorator(1, 0, 15, -1)", due, x -> x.decorator(1, 0, 15, -1)),
            new Call("component(256)", due, x -> x.component(256)),
            new Call("component(-1)", due, x -> x.component(-1)));
    }

    private static List<Call> exceedingFlags(int due) {
        return List.of(
            new Call("flags(0, 0, 8)", due, x -> x.flags(0, 0, 8)),
            new Call("flags(1, 3, -1)", due, x -> x.flags(1, 3, -1)));
    }

    private static List<Call> asking(int due) {
        return List.of(
            new Call("length(4, 0)", due, x -> x.length(4, 0)),
            new Call("length(0, 7)", due, x -> x.length(0, 7)),
            new Call("length(0, -1)", due, x -> x.length(0, -1)),
            new Call("element(4, 0, 0)", due, x -> x.element(4, 0, 0)),
            new Call("element(0, 7, 0)", due, x -> x.element(0, 7, 0)),
            new Call("element(0, 0, 21)", due, x -> x.element(0, 0, 21)),
            new Call("element(0, 0, -1)", due, x -> x.element(0, 0, -1)),
            new Call("invoke(4, 0, 7)", due, x -> x.invoke(4, 0, 7)),
            new Call("invoke(0, 7, 7)", due, x -> x.invoke(0, 7, 7)),
            new Call("invoke(0, -1, 7)", due, x -> x.invoke(0, -1, 7)));
    }

    private static List<Call> askingRightly(int due) {
        return List.of(
            new Call("length(0, 0)", due, x -> x.length(0, 0)),
            new Call("element(0, 0, 0)", due, x -> x.element(0, 0, 0)),
            new Call("invoke(0, 0, 7)", due, x -> x.invoke(0, 0, 7)),
            new Call("invoke(0, 4, 7)", due, x -> x.invoke(0, 4, 7)));
    }

    private static List<Call> reading() {
        return List.of(
            new Call("log(-1)", NOTHING, x -> x.log(-1)),
            new Call("log(64)", NOTHING, x -> x.log(64)));
    }

    @Says(under = "Terms", words = "The codes of a call are tested in the order in which its "
        + "comment names them;")
    static void termsCodesInTheirOrderWhenFull() {
        BoundChains x = filled();
        for (Call call : declaring(FULL)) {
            Due.is(call.name, call.made.applyAsInt(x), call.due);
        }
        for (Call call : naming(NOTHING)) {
            Due.is("nothing before full: " + call.name, call.made.applyAsInt(x), call.due);
        }
        for (Call call : exceeding(BAD)) {
            Due.is("bad before full: " + call.name, call.made.applyAsInt(x), call.due);
        }
        for (int[] wrong : new int[][] {{4, 0}, {-1, 0}, {0, 4}, {0, -1}, {4, 4}}) {
            Due.is("nothing before bad", x.flags(wrong[0], wrong[1], 8), NOTHING);
            Due.is("nothing before bad", x.flags(wrong[0], wrong[1], -1), NOTHING);
        }
        for (Call call : asking(OPEN)) {
            Due.is("open before nothing: " + call.name, call.made.applyAsInt(x), call.due);
        }
    }

    @Says(under = "Terms",
        words = "every declaring call tests CLOSED (the declarations are deployed) first.")
    static void termsClosedFirst() {
        for (BoundChains x : new BoundChains[] {deployed(filled()), deployed(halfFilled()),
            deployed(new BoundChains())}) {
            for (List<Call> calls : List.of(declaring(CLOSED), naming(CLOSED), exceeding(CLOSED),
                exceedingFlags(CLOSED))) {
                for (Call call : calls) {
                    Due.is(call.name, call.made.applyAsInt(x), call.due);
                }
            }
            Due.is("deploy()", x.deploy(), CLOSED);
        }
    }

    @Says(under = "Terms", words = "A call that answers a code below 0 changes nothing.")
    static void termsRefusedWhenClosedChangesNothing() {
        List<Call> calls = new ArrayList<>();
        calls.addAll(declaring(CLOSED));
        calls.addAll(naming(CLOSED));
        calls.addAll(exceeding(CLOSED));
        calls.addAll(exceedingFlags(CLOSED));
        calls.add(new Call("flags(0, 0, 7)", CLOSED, x -> x.flags(0, 0, 7)));
        calls.add(new Call("deploy()", CLOSED, BoundChains::deploy));
        calls.addAll(asking(NOTHING));
        calls.addAll(reading());
        changesNothing("half, deployed", () -> deployed(halfFilled()), calls);
        changesNothing("half, returned", () -> invoked(deployed(halfFilled()), 1), calls);
        changesNothing("half, thrown", () -> invoked(deployed(halfFilled()), 0), calls);
        changesNothing("filled, a full log", () -> invoked(deployed(filled()), 1), calls);
    }

    @Says(under = "Terms", words = "A call that answers a code below 0 changes nothing.")
    static void termsRefusedWhenOpenChangesNothing() {
        List<Call> calls = new ArrayList<>();
        calls.addAll(naming(NOTHING));
        calls.addAll(exceeding(BAD));
        calls.addAll(asking(OPEN));
        calls.addAll(askingRightly(OPEN));
        calls.addAll(reading());
        changesNothing("new", BoundChains::new, calls);
        calls.addAll(exceedingFlags(BAD));
        changesNothing("half", RefusalSentencesTest::halfFilled, calls);
        calls.addAll(declaring(FULL));
        changesNothing("filled", RefusalSentencesTest::filled, calls);
    }

    /** What deployment finds is no code below 0, but the document says the same of it. */
    @Says(under = "Promise 12", words = "then nothing is changed, and more may be declared")
    static void promise12FoundChangesNothing() {
        Maker conflict = () -> {
            BoundChains x = halfFilled();
            x.bind(1, 3, 0, 5);
            x.bind(1, 3, 0, 6);
            return x;
        };
        changesNothing("a conflict", conflict,
            List.of(new Call("deploy()", 212, BoundChains::deploy)));
        Maker isFinal = () -> {
            BoundChains x = halfFilled();
            x.flags(1, 3, 1);
            return x;
        };
        changesNothing("a final method", isFinal,
            List.of(new Call("deploy()", 307, BoundChains::deploy)));
        Maker mended = () -> {
            BoundChains x = isFinal.make();
            Due.is("not final any more", x.flags(1, 3, 0), 0);
            return x;
        };
        for (int view = 0; view < 6; view++) {
            BoundChains x = isFinal.make();
            Due.is("found", x.deploy(), 307);
            x.flags(1, 3, 0);
            Due.is("mended as if it had not been tried, view " + view,
                see(x, view).equals(see(mended.make(), view)) ? 1 : 0, 1);
        }
    }

    @Says(under = "Terms", words = "The constants: `NOTHING = -3`, `BAD = -4`, `FULL = -5`: "
        + "Something that is named is not there.")
    static void termsConstants() {
        Due.is("CLOSED", BoundChains.CLOSED, -2);
        Due.is("NOTHING", BoundChains.NOTHING, -3);
        Due.is("BAD", BoundChains.BAD, -4);
        Due.is("FULL", BoundChains.FULL, -5);
        BoundChains x = new BoundChains();
        Due.is("there is no type 0", x.carry(0, 0, 0), -3);
        Due.is("there are no types 256", x.component(256), -4);
        for (int c = 0; c < 4; c++) {
            x.component(0);
        }
        Due.is("there is no room", x.component(0), -5);
        deployed(x);
        Due.is("deployed", x.component(0), -2);
    }

    @Says(under = "Terms", words = "`OPEN = -6`: The declarations are not deployed.")
    static void termsOpen() {
        Due.is("OPEN", BoundChains.OPEN, -6);
        BoundChains x = new BoundChains();
        for (Call call : asking(-6)) {
            Due.is("new: " + call.name, call.made.applyAsInt(x), call.due);
        }
        x = deployed(halfFilled());
        x.clear();
        for (Call call : askingRightly(-6)) {
            Due.is("cleared: " + call.name, call.made.applyAsInt(x), call.due);
        }
    }
}
