/**
 * Promise 12, and what "Terms" says of broken facts: a test for each sentence that names a boundary
 * case. A remark at the head of a test says which promise and which sentence it is.
 */
public final class BrokenEdgesTest {
    private static final int BAD = QlRewrite.BAD;
    private static final int FULL = QlRewrite.FULL;
    private static final int LARGE = QlRewrite.LARGE;
    private static final Check CHECK = new Check();

    public static void main(String[] args) {
        noneForbids();
        noneDoes();
        firstAndLastAxiom();
        leastOfAll();
        sortsAtTheirEnds();
        waysAtTheirEnds();
        sameTwice();
        byOneOfItsForms();
        ninetyFormsAreNotTooLarge();
        mostFormsOfTwoWays();
        tooLargeAlone();
        tooLargeBefore();
        tooLargeAfter();
        tooLargeQuestionsDoNotCount();
        refusedCalls();
        questionsStay();
        CHECK.end();
    }

    /**
     * Role 0 leads from and to what must not be the same. These many roles stand for it, so many
     * classes more for HAS 0 and so many for OF 0; each role to itself comes by meeting.
     */
    private static int forbid(QlRewrite x, int roles, int has, int of) {
        int number = x.axiom(2, 20, 21);
        for (int role = 1; role < roles; role++) {
            x.axiom(1, 2 * role, 2 * role - 2);
        }
        for (int i = 0; i < has; i++) {
            x.axiom(0, i, i == 0 ? 20 : i - 1);
        }
        for (int i = has; i < has + of; i++) {
            x.axiom(0, i, i == has ? 21 : i - 1);
        }
        return number;
    }

    /** 7 times 12 forms and 6 by meeting. */
    private static int forbidNinety(QlRewrite x) {
        return forbid(x, 6, 1, 6);
    }

    /** 7 times 12 forms and 7 by meeting. */
    private static int forbidNinetyOne(QlRewrite x) {
        return forbid(x, 7, 0, 5);
    }

    private static void noneForbids() {
        CHECK.sentence("promise 12", "BAD when none does");
        QlRewrite x = new QlRewrite();
        CHECK.due("a new object", x.broken(), BAD);
        x.fact(false, 0, 0, 0);
        x.fact(true, 0, 0, 0);
        CHECK.due("no axioms", x.broken(), BAD);
        for (int i = 0; i < 16; i++) {
            x.axiom(i % 2, 0, 0);
        }
        CHECK.due("16 that forbid nothing", x.broken(), BAD);
    }

    private static void noneDoes() {
        CHECK.sentence("promise 12", "BAD when none does");
        QlRewrite x = new QlRewrite();
        for (int i = 0; i < 16; i++) {
            x.axiom(2 + i % 2, i / 2, 1 + i / 2);
        }
        CHECK.due("no facts", x.broken(), BAD);
        for (int i = 0; i < 9; i++) {
            x.fact(false, i, i, 0);
        }
        for (int i = 0; i < 8; i++) {
            x.fact(true, i, i, 11);
        }
        CHECK.due("no thing is of two", x.broken(), BAD);
        x.fact(false, 8, 7, 0);
        CHECK.due("now one is", x.broken(), 14);
        x.forget(false, 8, 7, 0);
        CHECK.due("and none again", x.broken(), BAD);
    }

    private static void firstAndLastAxiom() {
        CHECK.sentence("promise 12", "The least axiom that breaks the facts (numbered from 0, at most 16)");
        for (int number = 0; number < 16; number++) {
            QlRewrite x = new QlRewrite();
            QlRewrite y = new QlRewrite();
            for (int i = 0; i < 16; i++) {
                x.axiom(2, i == number ? 9 : 1, 0);
                y.axiom(3, i == number ? 14 : 2, 0);
            }
            x.fact(false, 9, 11, 0);
            y.fact(true, 7, 11, 11);
            CHECK.due("one alone", x.broken(), BAD);
            CHECK.due("one way alone", y.broken(), BAD);
            x.fact(false, 0, 11, 0);
            y.fact(true, 0, 11, 11);
            CHECK.due("of both sorts", x.broken(), number);
            CHECK.due("joined by both ways", y.broken(), number);
        }
    }

    private static void leastOfAll() {
        CHECK.sentence("promise 12", "The least axiom that breaks the facts");
        QlRewrite x = new QlRewrite();
        for (int i = 0; i < 8; i++) {
            x.axiom(2, i, i + 1);
            x.axiom(3, 2 * i, 2 * i);
        }
        for (int i = 7; i >= 0; i--) {
            x.fact(true, i, i, i);
            CHECK.due("axiom " + (2 * i + 1), x.broken(), 2 * i + 1);
            x.fact(false, i, i, 0);
            x.fact(false, i + 1, i, 0);
            CHECK.due("axiom " + 2 * i, x.broken(), 2 * i);
        }
        for (int i = 0; i < 8; i++) {
            x.forget(false, i, i, 0);
            CHECK.due("axiom " + (2 * i + 1) + " then", x.broken(), 2 * i + 1);
            x.forget(true, i, i, i);
            CHECK.due("axiom " + (2 * i + 2) + " then", x.broken(), i == 7 ? BAD : 2 * i + 2);
        }
    }

    private static void sortsAtTheirEnds() {
        CHECK.sentence("Terms", "x is of SORT a and of SORT b");
        int[] sorts = {0, 9, 20, 21, 34, 35};
        for (int a : sorts) {
            for (int b : sorts) {
                if (a != b) {
                    QlRewrite x = new QlRewrite();
                    x.axiom(2, a, b);
                    String name = "sorts " + a + " and " + b;
                    put(x, a, 11, 5);
                    CHECK.due(name + ", one alone", x.broken(), BAD);
                    put(x, b, 0, 7);
                    CHECK.due(name + ", of two things", x.broken(), BAD);
                    put(x, b, 11, 8);
                    CHECK.due(name + ", of one thing", x.broken(), 0);
                }
            }
        }
    }

    /** A thing is of a sort, by another one if it needs one. */
    private static void put(QlRewrite x, int sort, int thing, int other) {
        if (sort < 20) {
            x.fact(false, sort, thing, 0);
        } else if (sort % 2 == 0) {
            x.fact(true, (sort - 20) / 2, thing, other);
        } else {
            x.fact(true, (sort - 21) / 2, other, thing);
        }
    }

    private static void waysAtTheirEnds() {
        CHECK.sentence("Terms", "x to y is of WAY a and of WAY b");
        int[] ways = {0, 1, 14, 15};
        for (int a : ways) {
            for (int b : ways) {
                if (a != b) {
                    QlRewrite x = new QlRewrite();
                    x.axiom(3, a, b);
                    String name = "ways " + a + " and " + b;
                    join(x, a, 11, 0);
                    CHECK.due(name + ", one alone", x.broken(), BAD);
                    join(x, b, 11, 1);
                    CHECK.due(name + ", to two things", x.broken(), BAD);
                    join(x, b, 11, 0);
                    CHECK.due(name + ", to one thing", x.broken(), 0);
                    QlRewrite y = new QlRewrite();
                    y.axiom(3, a, b);
                    join(y, a, 11, 11);
                    join(y, b, 11, 11);
                    CHECK.due(name + ", to itself", y.broken(), 0);
                }
            }
        }
    }

    private static void join(QlRewrite x, int way, int from, int to) {
        x.fact(true, way / 2, way % 2 == 0 ? from : to, way % 2 == 0 ? to : from);
    }

    private static void sameTwice() {
        CHECK.sentence("Terms", "x is of SORT a and of SORT b (x to y is of WAY a and of WAY b)");
        for (int sort : new int[] {0, 9, 20, 21, 34, 35}) {
            QlRewrite x = new QlRewrite();
            x.axiom(2, sort, sort);
            CHECK.due("sort " + sort + ", none", x.broken(), BAD);
            put(x, sort, 11, 0);
            CHECK.due("sort " + sort + ", one", x.broken(), 0);
        }
        for (int way : new int[] {0, 1, 14, 15}) {
            QlRewrite x = new QlRewrite();
            x.axiom(3, way, way);
            CHECK.due("way " + way + ", none", x.broken(), BAD);
            join(x, way, 0, 11);
            CHECK.due("way " + way + ", one", x.broken(), 0);
        }
    }

    private static void byOneOfItsForms() {
        CHECK.sentence("Terms", "finds something by one of its forms");
        QlRewrite x = new QlRewrite();
        x.axiom(2, 0, 9);
        x.fact(false, 5, 11, 0);
        x.fact(true, 7, 3, 11);
        CHECK.due("neither of them", x.broken(), BAD);
        x.axiom(0, 5, 0);
        CHECK.due("one of them", x.broken(), BAD);
        x.axiom(0, 35, 9);
        CHECK.due("both, by the last form", x.broken(), 0);
        x.forget(true, 7, 3, 11);
        CHECK.due("one of them again", x.broken(), BAD);
        // What is of class 8 leads to one that is of both, whichever that is.
        x.axiom(0, 8, 34);
        x.axiom(0, 35, 0);
        CHECK.due("none is of class 8", x.broken(), BAD);
        x.fact(false, 8, 0, 0);
        CHECK.due("by meeting", x.broken(), 0);
    }

    private static void ninetyFormsAreNotTooLarge() {
        CHECK.sentence("promise 12", "LARGE when one that is too large (At most 90 forms come)");
        QlRewrite x = new QlRewrite();
        CHECK.due("its number", forbidNinety(x), 0);
        CHECK.due("90 forms, none finds", x.broken(), BAD);
        x.fact(true, 5, 11, 11);
        CHECK.due("90 forms, the last role to itself", x.broken(), 0);
        x.forget(true, 5, 11, 11);
        x.fact(false, 0, 4, 0);
        CHECK.due("HAS 0 alone", x.broken(), BAD);
        x.fact(false, 6, 4, 0);
        CHECK.due("90 forms, the last classes", x.broken(), 0);
        x.axiom(0, 8, 6);
        CHECK.due("13 more forms", x.broken(), LARGE);
    }

    /**
     * Two ways have at most 64 pairs of atoms, 8 roles to themselves, 8 roles and 10 classes of ANY
     * alone: 90 forms, so that an axiom of kind 3 is never too large. 16 axioms bring 87 of them.
     */
    private static void mostFormsOfTwoWays() {
        CHECK.sentence("Terms", "(x to y is of WAY a and of WAY b) finds something by one of its forms");
        QlRewrite x = new QlRewrite();
        x.axiom(3, 0, 1);
        x.axiom(1, 0, 1);
        for (int role = 1; role < 8; role++) {
            x.axiom(1, 2 * role, 0);
        }
        for (int i = 0; i < 7; i++) {
            x.axiom(0, i, 34);
        }
        CHECK.due("no room for more", x.axiom(0, 7, 34), FULL);
        x.question(0);
        x.atom(0, true, 0, 0, 1);
        x.atom(0, true, 0, 1, 0);
        CHECK.due("64 pairs, 8 to themselves, 8 roles, 7 classes", x.forms(0), 87);
        CHECK.due("no facts", x.broken(), BAD);
        for (int i = 0; i < 10; i++) {
            x.fact(false, i, 11, 0);
            CHECK.due("class " + i, x.broken(), i < 7 ? 0 : BAD);
            x.forget(false, i, 11, 0);
        }
        for (int role = 0; role < 8; role++) {
            x.fact(true, role, 0, 11);
            CHECK.due("role " + role, x.broken(), 0);
            x.forget(true, role, 0, 11);
        }
        CHECK.due("no facts again", x.broken(), BAD);
    }

    private static void tooLargeAlone() {
        CHECK.sentence("promise 12", "LARGE when .. there is no such one");
        QlRewrite x = new QlRewrite();
        CHECK.due("its number", forbidNinetyOne(x), 0);
        CHECK.due("91 forms, no facts", x.broken(), LARGE);
        x.fact(true, 0, 3, 3);
        CHECK.due("91 forms, one would find", x.broken(), LARGE);
        QlRewrite y = new QlRewrite();
        y.axiom(2, 8, 9);
        y.axiom(3, 14, 15);
        CHECK.due("its number behind others", forbidNinetyOne(y), 2);
        CHECK.due("too large behind others that break nothing", y.broken(), LARGE);
    }

    private static void tooLargeBefore() {
        CHECK.sentence("promise 12", "LARGE when one that is too large comes before such a one");
        QlRewrite x = new QlRewrite();
        CHECK.due("its number", forbidNinetyOne(x), 0);
        CHECK.due("one behind it", x.axiom(2, 9, 9), 12);
        x.fact(false, 9, 0, 0);
        CHECK.due("one that breaks behind it", x.broken(), LARGE);
        QlRewrite y = new QlRewrite();
        y.axiom(2, 8, 9);
        CHECK.due("its number", forbidNinetyOne(y), 1);
        y.axiom(2, 9, 9);
        y.fact(false, 9, 0, 0);
        CHECK.due("between one that does not and one that does", y.broken(), LARGE);
        y.fact(false, 8, 0, 0);
        CHECK.due("now the first one does", y.broken(), 0);
    }

    private static void tooLargeAfter() {
        CHECK.sentence("promise 12", "The least axiom that breaks the facts; LARGE when one that is too large comes before");
        QlRewrite x = new QlRewrite();
        x.axiom(3, 14, 14);
        CHECK.due("its number", forbidNinetyOne(x), 1);
        CHECK.due("nothing is joined", x.broken(), LARGE);
        x.fact(true, 7, 0, 0);
        CHECK.due("the first one breaks", x.broken(), 0);
        x.forget(true, 7, 0, 0);
        CHECK.due("it does no more", x.broken(), LARGE);
    }

    private static void tooLargeQuestionsDoNotCount() {
        CHECK.sentence("promise 12", "LARGE when one that is too large");
        QlRewrite x = new QlRewrite();
        for (int i = 0; i < 13; i++) {
            x.axiom(0, i < 9 ? i + 1 : i < 12 ? 2 * i + 2 : 0, i < 10 ? i : 2 * i);
        }
        x.question(1);
        x.atom(0, false, 0, 0, 0);
        x.atom(0, false, 1, 0, 0);
        CHECK.due("a question", x.forms(0), LARGE);
        CHECK.due("no axiom forbids", x.broken(), BAD);
        x.axiom(3, 14, 12);
        CHECK.due("one that is not too large", x.broken(), BAD);
        x.axiom(2, 0, 1);
        CHECK.due("one that is", x.broken(), LARGE);
    }

    private static void refusedCalls() {
        CHECK.sentence("promise 12", "The least axiom that breaks the facts");
        QlRewrite x = new QlRewrite();
        x.fact(false, 0, 0, 0);
        CHECK.due("a wrong axiom", x.axiom(2, 0, 10), BAD);
        CHECK.due("forbids nothing", x.broken(), BAD);
        for (int i = 0; i < 16; i++) {
            x.axiom(0, 5, 6);
        }
        CHECK.due("one too many", x.axiom(2, 0, 0), FULL);
        CHECK.due("forbids nothing either", x.broken(), BAD);
        QlRewrite y = new QlRewrite();
        y.axiom(2, 0, 0);
        CHECK.due("a wrong fact", y.fact(false, 0, 12, 0), BAD);
        CHECK.due("breaks nothing", y.broken(), BAD);
        for (int i = 0; i < 60; i++) {
            y.fact(false, 1 + i / 12, i % 12, 0);
        }
        CHECK.due("a fact too many", y.fact(false, 0, 0, 0), FULL);
        CHECK.due("breaks nothing either", y.broken(), BAD);
        y.forget(false, 1, 0, 0);
        y.fact(false, 0, 0, 0);
        CHECK.due("with room it does", y.broken(), 0);
    }

    private static void questionsStay() {
        CHECK.sentence("promise 12", "the question without answers");
        QlRewrite x = new QlRewrite();
        x.axiom(2, 0, 0);
        x.fact(false, 0, 11, 0);
        CHECK.due("without questions", x.broken(), 0);
        CHECK.due("none has come by it", x.count(2), 0);
        for (int q = 0; q < 6; q++) {
            x.question(q % 3);
            x.atom(q, false, 0, 0, 0);
        }
        String before = Check.told(x);
        CHECK.due("beside six questions", x.broken(), 0);
        CHECK.due("none more has come", x.count(2), 6);
        CHECK.unchanged(x, before);
        CHECK.due("clear()", x.clear(), 6);
        CHECK.due("after clear()", x.broken(), 0);
    }
}
