/** Promises 9 to 11: what the forms find, sorted, and which of them finds it first. */
public final class AnswersTest {
    private static final Check CHECK = new Check();

    public static void main(String[] args) {
        withoutAnswers();
        oneAnswer();
        twoAnswers();
        joinedAnswers();
        answersInNoAtom();
        anyAtEachPlace();
        joins();
        loops();
        firstFormFinds();
        followsByMeeting();
        changesOfFacts();
        allThings();
        wrongInputs();
        CHECK.end();
    }

    private static void withoutAnswers() {
        QlRewrite x = new QlRewrite();
        x.axiom(0, 1, 0);
        x.question(0);
        x.atom(0, false, 0, 3, 0);
        CHECK.answers(x, 0);
        CHECK.due("why of nothing", x.why(0, 0), QlRewrite.BAD);
        x.fact(false, 1, 5, 0);
        x.fact(false, 1, 6, 0);
        CHECK.answers(x, 0, 0);
        CHECK.due("why by the axiom", x.why(0, 0), 1);
        CHECK.due("why of no such number", x.why(0, 5), QlRewrite.BAD);
        CHECK.due("why of a thing", x.why(0, 16 * 5), QlRewrite.BAD);
        x.fact(false, 0, 7, 0);
        CHECK.answers(x, 0, 0);
        CHECK.due("why by itself", x.why(0, 0), 0);
    }

    private static void oneAnswer() {
        QlRewrite x = new QlRewrite();
        x.axiom(0, 21, 0);
        x.question(1);
        x.atom(0, false, 0, 0, 0);
        x.fact(false, 0, 11, 0);
        x.fact(true, 0, 3, 0);
        x.fact(true, 0, 11, 7);
        x.fact(true, 0, 4, 11);
        CHECK.answers(x, 0, 0, 16 * 7, 16 * 11);
        CHECK.due("why 0", x.why(0, 0), 1);
        CHECK.due("why 7", x.why(0, 16 * 7), 1);
        CHECK.due("why 11", x.why(0, 16 * 11), 0);
        CHECK.due("why 3", x.why(0, 16 * 3), QlRewrite.BAD);
        CHECK.due("why with a second one", x.why(0, 16 * 7 + 7), QlRewrite.BAD);
    }

    private static void twoAnswers() {
        QlRewrite x = new QlRewrite();
        x.axiom(1, 5, 0);
        x.question(2);
        x.atom(0, true, 0, 0, 1);
        x.fact(true, 0, 3, 2);
        x.fact(true, 0, 3, 11);
        x.fact(true, 2, 1, 3);
        x.fact(true, 2, 0, 0);
        x.fact(true, 2, 2, 3);
        CHECK.answers(x, 0, 0, 16 * 3 + 1, 16 * 3 + 2, 16 * 3 + 11);
        CHECK.due("why 3 1", x.why(0, 49), 1);
        CHECK.due("why 3 2", x.why(0, 50), 0);
        CHECK.due("why 1 3", x.why(0, 19), QlRewrite.BAD);
        x.question(2);
        x.atom(1, true, 0, 1, 0);
        CHECK.answers(x, 1, 0, 16 + 3, 32 + 3, 16 * 11 + 3);
    }

    private static void joinedAnswers() {
        QlRewrite x = new QlRewrite();
        x.axiom(0, 1, 20);
        x.question(2);
        x.atom(0, true, 0, 0, 2);
        x.atom(0, true, 0, 1, 2);
        // Who leads to the same one: each of class 1 to its own.
        x.fact(false, 1, 4, 0);
        x.fact(false, 1, 9, 0);
        x.fact(true, 0, 2, 8);
        x.fact(true, 0, 3, 8);
        CHECK.answers(x, 0, 16 * 2 + 2, 16 * 2 + 3, 16 * 3 + 2, 16 * 3 + 3, 16 * 4 + 4, 16 * 9 + 9);
        CHECK.due("forms", x.forms(0), 3);
        CHECK.due("why 2 3", x.why(0, 35), 0);
        CHECK.due("why 4 4", x.why(0, 68), 2);
        CHECK.due("why 4 9", x.why(0, 73), QlRewrite.BAD);
    }

    private static void answersInNoAtom() {
        QlRewrite x = new QlRewrite();
        x.fact(false, 0, 0, 0);
        x.question(1);
        x.atom(0, false, 0, 1, 0);
        CHECK.answers(x, 0);
        x.question(2);
        x.atom(1, false, 0, 0, 0);
        CHECK.answers(x, 1);
        x.question(2);
        x.atom(2, false, 0, 1, 0);
        CHECK.answers(x, 2);
        CHECK.due("why", x.why(2, 0), QlRewrite.BAD);
        x.question(2);
        x.atom(3, false, 0, 2, 0);
        CHECK.answers(x, 3);
    }

    private static void anyAtEachPlace() {
        QlRewrite x = new QlRewrite();
        x.question(1);
        x.atom(0, true, 1, 0, 2);
        x.atom(0, true, 2, 3, 0);
        x.atom(0, true, 3, 4, 5);
        x.atom(0, false, 4, 6, 0);
        x.fact(true, 1, 1, 2);
        x.fact(true, 2, 3, 1);
        CHECK.answers(x, 0);
        x.fact(true, 3, 9, 10);
        CHECK.answers(x, 0);
        x.fact(false, 4, 8, 0);
        CHECK.answers(x, 0, 16);
        x.forget(true, 3, 9, 10);
        CHECK.answers(x, 0);
    }

    private static void joins() {
        QlRewrite x = new QlRewrite();
        x.question(2);
        x.atom(0, true, 0, 0, 2);
        x.atom(0, true, 1, 2, 3);
        x.atom(0, true, 2, 3, 1);
        x.atom(0, true, 3, 3, 3);
        x.fact(true, 0, 0, 1);
        x.fact(true, 0, 0, 2);
        x.fact(true, 1, 1, 3);
        x.fact(true, 1, 2, 4);
        x.fact(true, 2, 3, 5);
        x.fact(true, 2, 4, 6);
        CHECK.answers(x, 0);
        x.fact(true, 3, 4, 4);
        x.fact(true, 3, 3, 4);
        CHECK.answers(x, 0, 6);
        x.fact(true, 3, 3, 3);
        CHECK.answers(x, 0, 5, 6);
        x.question(0);
        x.atom(1, true, 4, 2, 3);
        x.atom(1, true, 4, 3, 4);
        x.atom(1, true, 4, 4, 2);
        x.fact(true, 4, 7, 8);
        x.fact(true, 4, 8, 9);
        CHECK.answers(x, 1);
        x.fact(true, 4, 9, 7);
        CHECK.answers(x, 1, 0);
        CHECK.due("a circle of three", x.why(1, 0), 0);
    }

    private static void loops() {
        QlRewrite x = new QlRewrite();
        x.question(1);
        x.atom(0, true, 7, 0, 0);
        x.question(0);
        x.atom(1, true, 7, 3, 3);
        for (int i = 0; i < 11; i++) {
            x.fact(true, 7, i, i + 1);
        }
        CHECK.answers(x, 0);
        CHECK.answers(x, 1);
        x.fact(true, 7, 0, 0);
        x.fact(true, 7, 11, 11);
        CHECK.answers(x, 0, 0, 16 * 11);
        CHECK.answers(x, 1, 0);
        x.forget(true, 7, 0, 0);
        CHECK.answers(x, 0, 16 * 11);
        CHECK.due("0 still leads to 1", x.forget(true, 7, 0, 1), 1);
    }

    private static void firstFormFinds() {
        QlRewrite x = new QlRewrite();
        for (int i = 0; i < 9; i++) {
            x.axiom(0, i + 1, i);
        }
        x.question(1);
        x.atom(0, false, 0, 0, 0);
        for (int i = 0; i < 10; i++) {
            x.fact(false, i, 11 - i, 0);
            x.fact(false, 9, i, 0);
        }
        CHECK.due("all things", x.run(0), 12);
        CHECK.due("thing 0", x.why(0, 0), 9);
        CHECK.due("thing 1", x.why(0, 16), 9);
        for (int i = 0; i < 10; i++) {
            CHECK.due("thing " + (11 - i), x.why(0, 16 * (11 - i)), i);
        }
    }

    private static void followsByMeeting() {
        QlRewrite x = new QlRewrite();
        x.axiom(0, 0, 20);
        x.axiom(0, 21, 1);
        x.question(1);
        x.atom(0, true, 0, 0, 2);
        x.atom(0, false, 1, 2, 0);
        x.fact(false, 0, 6, 0);
        // Class 1 of the target is what leads there, and this is the role itself.
        CHECK.answers(x, 0, 16 * 6);
        CHECK.due("forms", x.forms(0), 4);
        CHECK.due("why", x.why(0, 96), 3);
    }

    private static void changesOfFacts() {
        QlRewrite x = new QlRewrite();
        x.question(1);
        x.atom(0, true, 5, 0, 1);
        CHECK.answers(x, 0);
        x.fact(true, 5, 1, 2);
        CHECK.answers(x, 0, 16);
        x.fact(true, 5, 1, 3);
        CHECK.answers(x, 0, 16);
        x.forget(true, 5, 1, 2);
        CHECK.answers(x, 0, 16);
        x.forget(true, 5, 1, 3);
        CHECK.answers(x, 0);
        x.fact(false, 5, 4, 0);
        CHECK.answers(x, 0);
        x.axiom(0, 5, 30);
        CHECK.answers(x, 0, 64);
        x.atom(0, false, 6, 0, 0);
        CHECK.answers(x, 0);
        x.fact(false, 6, 4, 0);
        CHECK.answers(x, 0, 64);
    }

    private static void allThings() {
        QlRewrite x = new QlRewrite();
        for (int i = 0; i < 12; i++) {
            x.fact(false, 0, i, 0);
        }
        x.question(2);
        x.atom(0, false, 0, 0, 0);
        x.atom(0, false, 0, 1, 0);
        CHECK.due("all pairs", x.run(0), 144);
        for (int i = 0; i < 144; i++) {
            CHECK.due("pair " + i, x.answer(0, i), 16 * (i / 12) + i % 12);
        }
        CHECK.due("no pair 144", x.answer(0, 144), QlRewrite.BAD);
        CHECK.due("why 11 11", x.why(0, 16 * 11 + 11), 0);
        CHECK.due("why 0 12", x.why(0, 12), QlRewrite.BAD);
        CHECK.due("why 12 0", x.why(0, 192), QlRewrite.BAD);
    }

    private static void wrongInputs() {
        QlRewrite x = new QlRewrite();
        x.fact(false, 0, 0, 0);
        x.question(1);
        x.atom(0, false, 0, 0, 0);
        x.question(1);
        for (int far : new int[] {Integer.MIN_VALUE, -1, 2, Integer.MAX_VALUE}) {
            CHECK.due("run far", x.run(far), QlRewrite.BAD);
            CHECK.due("answer of far", x.answer(far, 0), QlRewrite.BAD);
            CHECK.due("why of far", x.why(far, 0), QlRewrite.BAD);
            CHECK.due("answer far", x.answer(0, far), QlRewrite.BAD);
            CHECK.due("why far", x.why(0, far), QlRewrite.BAD);
        }
        CHECK.due("run without atoms", x.run(1), QlRewrite.BAD);
        CHECK.due("answer without atoms", x.answer(1, 0), QlRewrite.BAD);
        CHECK.due("why without atoms", x.why(1, 0), QlRewrite.BAD);
        CHECK.due("run", x.run(0), 1);
    }
}
