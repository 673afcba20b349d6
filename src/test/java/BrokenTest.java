/** Promise 12: the least axiom that breaks the facts, and what is too large for it. */
public final class BrokenTest {
    private static final Check CHECK = new Check();

    public static void main(String[] args) {
        sorts();
        equalSorts();
        ways();
        byAxioms();
        leastOne();
        tooLarge();
        sixteenAxioms();
        questionsStay();
        CHECK.end();
    }

    private static void sorts() {
        for (int a : new int[] {3, 24, 25}) {
            for (int b : new int[] {4, 26, 27}) {
                QlRewrite x = new QlRewrite();
                x.axiom(2, a, b);
                String name = "sorts " + a + " and " + b;
                put(x, a, 5);
                CHECK.due(name + ", one", x.broken(), QlRewrite.BAD);
                put(x, b, 6);
                CHECK.due(name + ", of two things", x.broken(), QlRewrite.BAD);
                put(x, b, 5);
                CHECK.due(name + ", of one thing", x.broken(), 0);
            }
        }
    }

    private static void put(QlRewrite x, int sort, int thing) {
        if (sort < 20) {
            x.fact(false, sort, thing, 0);
        } else if (sort % 2 == 0) {
            x.fact(true, (sort - 20) / 2, thing, 11);
        } else {
            x.fact(true, (sort - 20) / 2, 10, thing);
        }
    }

    /** What is of a sort twice is of it: nothing may be. */
    private static void equalSorts() {
        for (int sort : new int[] {9, 34, 35}) {
            QlRewrite x = new QlRewrite();
            x.axiom(2, sort, sort);
            CHECK.due("nothing is of " + sort, x.broken(), QlRewrite.BAD);
            put(x, sort, 0);
            CHECK.due("one is of " + sort, x.broken(), 0);
        }
        QlRewrite x = new QlRewrite();
        x.axiom(2, 20, 21);
        x.fact(true, 0, 1, 2);
        CHECK.due("1 leads, 2 is led to", x.broken(), QlRewrite.BAD);
        x.fact(true, 0, 2, 3);
        CHECK.due("2 does both", x.broken(), 0);
        QlRewrite y = new QlRewrite();
        y.axiom(3, 14, 14);
        CHECK.due("nothing is joined", y.broken(), QlRewrite.BAD);
        y.fact(true, 7, 1, 2);
        CHECK.due("two are joined", y.broken(), 0);
    }

    private static void ways() {
        for (int turnedA = 0; turnedA < 2; turnedA++) {
            for (int turnedB = 0; turnedB < 2; turnedB++) {
                boolean same = turnedA == turnedB;
                QlRewrite x = new QlRewrite();
                x.axiom(3, 2 + turnedA, 4 + turnedB);
                x.fact(true, 1, 1, 2);
                x.fact(true, 2, same ? 2 : 1, same ? 1 : 2);
                CHECK.due("joined the other way", x.broken(), QlRewrite.BAD);
                x.fact(true, 2, same ? 1 : 2, same ? 2 : 1);
                CHECK.due("joined this way", x.broken(), 0);
            }
        }
        QlRewrite y = new QlRewrite();
        y.axiom(3, 2, 4);
        y.fact(true, 1, 1, 2);
        y.fact(true, 2, 1, 3);
        y.fact(true, 2, 3, 2);
        CHECK.due("no two are joined by both", y.broken(), QlRewrite.BAD);
        QlRewrite x = new QlRewrite();
        x.axiom(3, 0, 1);
        x.fact(true, 0, 1, 2);
        CHECK.due("there", x.broken(), QlRewrite.BAD);
        x.fact(true, 0, 2, 1);
        CHECK.due("and back", x.broken(), 0);
        x.forget(true, 0, 1, 2);
        CHECK.due("only back", x.broken(), QlRewrite.BAD);
        x.fact(true, 0, 2, 2);
        CHECK.due("to itself", x.broken(), 0);
    }

    private static void byAxioms() {
        QlRewrite x = new QlRewrite();
        x.axiom(2, 0, 1);
        x.fact(false, 2, 4, 0);
        x.fact(true, 3, 4, 5);
        CHECK.due("neither yet", x.broken(), QlRewrite.BAD);
        x.axiom(0, 2, 0);
        CHECK.due("one of them", x.broken(), QlRewrite.BAD);
        x.axiom(0, 26, 1);
        CHECK.due("both of them", x.broken(), 0);
        QlRewrite y = new QlRewrite();
        y.axiom(0, 0, 20);
        y.axiom(0, 21, 1);
        y.axiom(0, 21, 2);
        y.axiom(2, 1, 2);
        CHECK.due("no facts", y.broken(), QlRewrite.BAD);
        y.fact(false, 0, 7, 0);
        // What 7 must lead to is no thing that is told, and yet it is of both classes.
        CHECK.due("by meeting", y.broken(), 3);
    }

    private static void leastOne() {
        QlRewrite x = new QlRewrite();
        x.axiom(0, 0, 1);
        x.axiom(2, 2, 3);
        x.axiom(3, 0, 2);
        x.axiom(2, 4, 5);
        x.fact(false, 4, 0, 0);
        x.fact(false, 5, 0, 0);
        CHECK.due("axiom 3", x.broken(), 3);
        x.fact(true, 0, 1, 1);
        x.fact(true, 1, 1, 1);
        CHECK.due("axiom 2", x.broken(), 2);
        x.fact(false, 2, 11, 0);
        x.fact(false, 3, 11, 0);
        CHECK.due("axiom 1", x.broken(), 1);
        x.forget(false, 3, 11, 0);
        x.forget(true, 1, 1, 1);
        CHECK.due("axiom 3 again", x.broken(), 3);
    }

    /** 13 sorts that are all the same: what is of two of them has 91 forms. */
    private static void same(QlRewrite x) {
        for (int i = 0; i < 13; i++) {
            x.axiom(0, sort((i + 1) % 13), sort(i));
        }
    }

    private static int sort(int i) {
        return i < 10 ? i : 2 * i;
    }

    private static void tooLarge() {
        QlRewrite x = new QlRewrite();
        x.axiom(3, 10, 12);
        x.axiom(2, 0, 1);
        x.axiom(3, 14, 12);
        CHECK.due("not too large yet", x.broken(), QlRewrite.BAD);
        same(x);
        CHECK.due("too large, none breaks", x.broken(), QlRewrite.LARGE);
        x.fact(true, 7, 0, 1);
        x.fact(true, 6, 0, 1);
        CHECK.due("too large before one that breaks", x.broken(), QlRewrite.LARGE);
        x.fact(true, 5, 0, 1);
        CHECK.due("one that breaks before", x.broken(), 0);
        x.fact(false, 0, 0, 0);
        CHECK.due("still", x.broken(), 0);
        x.forget(true, 5, 0, 1);
        CHECK.due("too large, though it would break", x.broken(), QlRewrite.LARGE);
    }

    private static void sixteenAxioms() {
        QlRewrite x = new QlRewrite();
        for (int i = 0; i < 15; i++) {
            x.axiom(2, 0, 1 + i % 8);
        }
        x.axiom(2, 9, 9);
        CHECK.due("none of 16", x.broken(), QlRewrite.BAD);
        x.fact(false, 9, 0, 0);
        CHECK.due("the last of 16", x.broken(), 15);
    }

    private static void questionsStay() {
        QlRewrite x = new QlRewrite();
        x.axiom(2, 0, 0);
        for (int i = 0; i < 6; i++) {
            x.question(1);
            x.atom(i, false, i, 0, 0);
            x.fact(false, i, i, 0);
        }
        CHECK.due("broken beside six questions", x.broken(), 0);
        CHECK.due("six questions", x.count(2), 6);
        for (int i = 0; i < 6; i++) {
            CHECK.due("run " + i, x.run(i), 1);
            CHECK.due("answer " + i, x.answer(i, 0), 16 * i);
        }
        CHECK.due("broken again", x.broken(), 0);
        CHECK.due("clear", x.clear(), 6);
        CHECK.due("broken without questions", x.broken(), 0);
    }
}
