import java.util.Random;

/** Many runs of calls, the same ones every time, on the program and on the model beside it. */
final class ModelTest {
    private static final int RUNS = 20000;
    /** The document promises 512 calls of an object; a last invocation may add 70 to these. */
    private static final int CALLS = 512 - 70;
    private static final int[] WILD = {-1, -2, 4, 7, 8, 9, 10, 15, 16, 31, 255, 256,
        Integer.MAX_VALUE, Integer.MIN_VALUE};

    private final Random random;
    private final BoundChains x = new BoundChains();
    private final Model model = new Model();
    /** How many values a binding has: with few of them conflicts are rare. */
    private final int values;
    private final int wildness;
    private final int eagerness;
    private final String name;
    private int calls;

    private ModelTest(int seed) {
        random = new Random(seed);
        values = 1 + random.nextInt(3);
        wildness = random.nextBoolean() ? 200 : 15;
        eagerness = 10 + random.nextInt(100);
        name = "run " + seed;
    }

    public static void main(String[] args) {
        int deployments = 0;
        for (int seed = 0; seed < RUNS; seed++) {
            deployments += new ModelTest(seed).run() ? 1 : 0;
        }
        System.out.println(deployments + " of " + RUNS + " runs came to invocations");
        Due.is("most runs come to invocations", deployments > RUNS / 2 ? 1 : 0, 1);
        Due.end();
    }

    private boolean run() {
        boolean invoked = false;
        while (calls < CALLS) {
            boolean open = model.length(0, 0) == BoundChains.OPEN;
            if (random.nextInt(open ? 150 : 250) == 0) {
                calls++;
                x.clear();
                model.clear();
            } else if (open && random.nextInt(eagerness) == 0) {
                same("deploy", x.deploy(), model.deploy());
            } else if (open && random.nextInt(20) != 0) {
                declare();
            } else if (!open && random.nextInt(30) == 0) {
                declare();
            } else {
                ask();
            }
            invoked = invoked || model.log(0) >= 0;
        }
        return invoked;
    }

    private int pick(int bound) {
        return random.nextInt(wildness) == 0 ? WILD[random.nextInt(WILD.length)]
            : random.nextInt(bound);
    }

    private int pickMethod() {
        return pick(5) - 1;
    }

    private void same(String call, int got, int want) {
        calls++;
        Due.is(name + ": " + call, got, want);
    }

    private void declare() {
        int a;
        int b;
        int c;
        int d;
        switch (random.nextInt(12)) {
            case 0:
                boolean matters = random.nextInt(3) != 0;
                same("binding", x.binding(matters), model.binding(matters));
                break;
            case 1:
                a = pick(8);
                b = pick(8);
                c = random.nextInt(values);
                same("carry", x.carry(a, b, c), model.carry(a, b, c));
                break;
            case 2:
                a = pick(10);
                b = random.nextBoolean() ? 15 : pick(16);
                c = pick(6);
                same("interceptor", x.interceptor(a, b, c), model.interceptor(a, b, c));
                break;
            case 3:
                a = pick(10);
                b = pick(8);
                c = pick(16);
                d = pick(6);
                same("decorator", x.decorator(a, b, c, d), model.decorator(a, b, c, d));
                break;
            case 4:
                a = random.nextBoolean() ? 255 : pick(256);
                same("component", x.component(a), model.component(a));
                break;
            case 5:
            case 6:
                a = pick(8);
                b = pick(8);
                c = random.nextInt(values);
                same("bindInterceptor", x.bindInterceptor(a, b, c), model.bindInterceptor(a, b, c));
                break;
            case 7:
            case 8:
                a = pick(4);
                b = pickMethod();
                c = pick(8);
                d = random.nextInt(values);
                same("bind", x.bind(a, b, c, d), model.bind(a, b, c, d));
                break;
            case 9:
            case 10:
                a = pick(4);
                b = pickMethod();
                c = pick(8);
                same("list", x.list(a, b, c), model.list(a, b, c));
                break;
            default:
                a = pick(4);
                b = pick(4);
                c = random.nextInt(4) == 0 ? pick(8) : pick(4) * 2;
                same("flags", x.flags(a, b, c), model.flags(a, b, c));
        }
    }

    private void ask() {
        int a = pick(4);
        int b = pick(7);
        int c = random.nextInt(3) == 0 ? random.nextInt() : random.nextInt(22);
        switch (random.nextInt(6)) {
            case 0:
                same("length", x.length(a, b), model.length(a, b));
                break;
            case 1:
                same("element", x.element(a, b, c), model.element(a, b, c));
                break;
            case 2:
                same("log", x.log(c), model.log(c));
                break;
            default:
                same("invoke", x.invoke(a, b, c), model.invoke(a, b, c));
                same("result", x.result(), model.result());
                same("error", x.error(), model.error());
                partOfLog(random.nextInt(4) == 0 ? 65 : 5);
        }
    }

    private void partOfLog(int last) {
        for (int k = -1; k < last; k++) {
            same("log", x.log(k), model.log(k));
        }
    }
}
