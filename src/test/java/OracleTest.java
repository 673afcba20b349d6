import java.util.Random;

/** Runs of calls by lot, but the same ones each time, against the plain Oracle. */
public final class OracleTest {
    private static final int[] ODD = {Integer.MIN_VALUE, -2, -1, 3, 7, 8, 10, 12, 16, 19, 36, 90, Integer.MAX_VALUE};

    private static final Check CHECK = new Check();
    private static int large = 0;
    private static int brokenLarge = 0;
    private static int broken = 0;
    private static int answered = 0;

    private final Random lot;
    private final QlRewrite x = new QlRewrite();
    private final Oracle o = new Oracle();
    private final StringBuilder calls = new StringBuilder();
    private final int classes;
    private final int roles;
    private final int things;
    private final int variables;
    private final boolean circle;
    private int left = 512;

    private OracleTest(int run) {
        lot = new Random(run);
        classes = 1 + lot.nextInt(lot.nextBoolean() ? 3 : 10);
        roles = 1 + lot.nextInt(lot.nextBoolean() ? 3 : 8);
        things = 1 + lot.nextInt(lot.nextBoolean() ? 4 : 12);
        variables = 2 + lot.nextInt(7);
        circle = run % 10 == 0;
    }

    public static void main(String[] args) {
        int runs = args.length > 0 ? Integer.parseInt(args[0]) : 1500;
        allOrders();
        for (int run = 0; run < runs && !CHECK.failed(); run++) {
            new OracleTest(run).play();
        }
        System.out.println(answered + " times answers, " + large + " times too large, broken " + broken
            + " times, too large for it " + brokenLarge + " times");
        CHECK.due("all kinds were seen", large > 20 && brokenLarge > 20 && broken > 20 && answered > 100 ? 1 : 0, 1);
        CHECK.end();
    }

    /** Circles of three and four, their atoms told in all orders and turned in all ways. */
    private static void allOrders() {
        for (int size = 3; size <= 4; size++) {
            for (int order = 0; order < 256; order++) {
                int seen = 0;
                for (int i = 0; i < size; i++) {
                    seen |= 1 << (order >> 2 * i & 3);
                }
                if (seen == (1 << size) - 1 && order < 1 << 2 * size) {
                    for (int turns = 0; turns < 1 << size; turns++) {
                        circle(size, order, turns);
                    }
                }
            }
        }
    }

    private static void circle(int size, int order, int turns) {
        QlRewrite x = new QlRewrite();
        Oracle o = new Oracle();
        x.question(0);
        o.question(0);
        for (int i = 0; i < size; i++) {
            int name = order >> 2 * i & 3;
            int next = (name + 1) % size;
            boolean turned = (turns >> name & 1) != 0;
            x.atom(0, true, name, turned ? next : name, turned ? name : next);
            o.atom(0, true, name, turned ? next : name, turned ? name : next);
        }
        for (int what = 0; what <= 6; what++) {
            String call = "circle of " + size + ", order " + order + ", turns " + turns + ": form(0, 0, " + what + ")";
            CHECK.due(call, x.form(0, 0, what), o.form(0, 0, what));
        }
    }

    private void play() {
        int most = lot.nextInt(17);
        if (circle) {
            sameSorts();
        }
        int steps = 20 + lot.nextInt(60);
        for (int step = 0; step < steps && left > 60 && !CHECK.failed(); step++) {
            int what = lot.nextInt(100);
            if (what < 30) {
                if (o.count(0) < most || lot.nextInt(20) == 0) {
                    axiom();
                }
            } else if (what < 55) {
                fact();
            } else if (what < 58) {
                forget();
            } else if (what < 62) {
                int answers = odd(lot.nextInt(3));
                same("question(" + answers + ")", x.question(answers), o.question(answers));
            } else if (what < 80) {
                atom();
            } else if (what < 94) {
                look(odd(lot.nextInt(6)));
            } else if (what < 99) {
                broken();
            } else if (lot.nextInt(4) == 0) {
                same("clear()", x.clear(), o.clear());
            }
            int counted = odd(lot.nextInt(3));
            same("count(" + counted + ")", x.count(counted), o.count(counted));
        }
        for (int q = 0; q < o.questions.size() && left > 60; q++) {
            look(q);
        }
        broken();
    }

    /** A dozen sorts, each of which is all the others: by lot alone broken() is hardly too large. */
    private void sameSorts() {
        int size = 11 + lot.nextInt(4);
        for (int i = size; i < 16; i++) {
            boolean ways = lot.nextBoolean();
            int kind = ways ? 3 : 2;
            int a = lot.nextInt(ways ? 16 : 10);
            int b = lot.nextInt(ways ? 16 : 10);
            same("axiom(" + kind + ", " + a + ", " + b + ")", x.axiom(kind, a, b), o.axiom(kind, a, b));
        }
        for (int i = 0; i < size; i++) {
            int a = circleSort((i + 1) % size);
            int b = circleSort(i);
            same("axiom(0, " + a + ", " + b + ")", x.axiom(0, a, b), o.axiom(0, a, b));
        }
    }

    private static int circleSort(int i) {
        return i < 10 ? i : 2 * i + i % 2;
    }

    private void same(String call, int got, int want) {
        left--;
        calls.append(call).append("; ");
        CHECK.due(call, got, want);
        if (got != want) {
            System.out.println("after " + calls);
        }
    }

    private int odd(int usual) {
        return lot.nextInt(40) == 0 ? ODD[lot.nextInt(ODD.length)] : usual;
    }

    private int sort() {
        return odd(lot.nextBoolean() ? lot.nextInt(classes) : 20 + lot.nextInt(2 * roles));
    }

    private int way() {
        return odd(lot.nextInt(2 * roles));
    }

    private void axiom() {
        int kind = odd(lot.nextInt(6) == 0 ? 2 + lot.nextInt(2) : lot.nextInt(3) / 2);
        boolean ways = kind == 1 || kind == 3;
        int a = ways ? way() : sort();
        int b = ways ? way() : sort();
        same("axiom(" + kind + ", " + a + ", " + b + ")", x.axiom(kind, a, b), o.axiom(kind, a, b));
    }

    private void fact() {
        boolean role = lot.nextBoolean();
        int name = odd(lot.nextInt(role ? roles : classes));
        int a = odd(lot.nextInt(things));
        int b = odd(lot.nextInt(things));
        same("fact(" + role + ", " + name + ", " + a + ", " + b + ")",
            x.fact(role, name, a, b), o.fact(role, name, a, b));
    }

    private void forget() {
        boolean role = lot.nextBoolean();
        int name = odd(lot.nextInt(role ? roles : classes));
        int a = odd(lot.nextInt(things));
        int b = odd(lot.nextInt(things));
        same("forget(" + role + ", " + name + ", " + a + ", " + b + ")",
            x.forget(role, name, a, b), o.forget(role, name, a, b));
    }

    private void atom() {
        int q = odd(lot.nextInt(Math.max(1, o.questions.size())));
        boolean role = lot.nextInt(3) > 0;
        int name = odd(lot.nextInt(role ? roles : classes));
        int a = odd(lot.nextInt(variables));
        int b = odd(lot.nextInt(variables));
        same("atom(" + q + ", " + role + ", " + name + ", " + a + ", " + b + ")",
            x.atom(q, role, name, a, b), o.atom(q, role, name, a, b));
    }

    private void broken() {
        int got = x.broken();
        int want = o.broken();
        broken += want >= 0 ? 1 : 0;
        brokenLarge += want == Oracle.LARGE ? 1 : 0;
        same("broken()", got, want);
    }

    private void look(int q) {
        int n = o.forms(q);
        same("forms(" + q + ")", x.forms(q), n);
        large += n == Oracle.LARGE ? 1 : 0;
        int shown = Math.min(Math.max(n, 0) + 1, 6);
        for (int k = 0; k < shown; k++) {
            int i = n <= 6 ? k : lot.nextInt(n);
            int what = odd(lot.nextInt(7));
            same("form(" + q + ", " + i + ", " + what + ")", x.form(q, i, what), o.form(q, i, what));
        }
        int found = o.run(q);
        same("run(" + q + ")", x.run(q), found);
        answered += found > 0 ? 1 : 0;
        for (int k = -1; k <= Math.min(found, 8); k++) {
            int answer = o.answer(q, k);
            same("answer(" + q + ", " + k + ")", x.answer(q, k), answer);
            same("why(" + q + ", " + answer + ")", x.why(q, answer), o.why(q, answer));
        }
        int any = odd(lot.nextInt(200));
        same("why(" + q + ", " + any + ")", x.why(q, any), o.why(q, any));
    }
}
