/**
 * Promises 9 to 11, and what "Terms" says of finding: a test for each sentence that names a boundary
 * case. A remark at the head of a test says which promise and which sentence it is.
 */
public final class AnswersEdgesTest {
    private static final int BAD = QlRewrite.BAD;
    private static final int LARGE = QlRewrite.LARGE;
    private static final Check CHECK = new Check();

    public static void main(String[] args) {
        runOfNone();
        runOfTooLarge();
        runAtItsEnds();
        runWithoutAnswers();
        runOfAllFormsTogether();
        runAfterRefusedCalls();
        answersInNoAtom();
        anyAnythingAtEachPlace();
        allAtomsAreFacts();
        oneThingForTwoVariables();
        answerOfNone();
        noSuchAnswer();
        answersSorted();
        answerOfTwoThings();
        answerOfNoSecond();
        answerOfTooLarge();
        whyOfNone();
        whyOfNoSuchAnswer();
        whyWithoutAnswers();
        whyTheFirstForm();
        whyOfTooLarge();
        CHECK.end();
    }

    /** A question with one answer and the atoms class 0 and class 1; 13 sorts are all the same. */
    private static QlRewrite ninetyOne() {
        QlRewrite x = new QlRewrite();
        for (int i = 0; i < 13; i++) {
            x.axiom(0, sort((i + 1) % 13), sort(i));
        }
        x.fact(false, 0, 0, 0);
        x.fact(false, 1, 0, 0);
        x.question(1);
        x.atom(0, false, 0, 0, 0);
        x.atom(0, false, 1, 0, 0);
        return x;
    }

    private static int sort(int i) {
        return i < 10 ? i : 2 * i;
    }

    /** One question of two answers that finds them all, 11 and 11 too. */
    private static QlRewrite allPairs() {
        QlRewrite x = new QlRewrite();
        x.question(2);
        x.atom(0, false, 9, 0, 0);
        x.atom(0, false, 9, 1, 0);
        for (int thing = 11; thing >= 0; thing--) {
            x.fact(false, 9, thing, 0);
        }
        return x;
    }

    // Promise 9

    private static void runOfNone() {
        CHECK.sentence("promise 9", "BAD .. as forms()");
        QlRewrite x = new QlRewrite();
        x.fact(false, 0, 0, 0);
        CHECK.due("nothing asked: run(0)", x.run(0), BAD);
        for (int answers = 0; answers <= 2; answers++) {
            x.question(answers);
            CHECK.due("without atoms", x.run(answers), BAD);
            CHECK.due("the next one", x.run(answers + 1), BAD);
            x.atom(answers, false, 0, 0, 0);
            CHECK.due("with an atom", x.run(answers), answers == 2 ? 0 : 1);
        }
        for (int wrong : Check.outside(0, 2)) {
            CHECK.due("run(" + wrong + ")", x.run(wrong), BAD);
        }
        x.clear();
        CHECK.due("cleared: run(0)", x.run(0), BAD);
    }

    private static void runOfTooLarge() {
        CHECK.sentence("promise 9", "LARGE as forms()");
        QlRewrite x = ninetyOne();
        CHECK.due("run(0)", x.run(0), LARGE);
        CHECK.due("run(0) again", x.run(0), LARGE);
        CHECK.due("run(1)", x.run(1), BAD);
        x.forget(false, 0, 0, 0);
        x.forget(false, 1, 0, 0);
        CHECK.due("without facts", x.run(0), LARGE);
        x.question(1);
        CHECK.due("without atoms", x.run(1), BAD);
        x.atom(1, false, 0, 0, 0);
        CHECK.due("not too large", x.run(1), 0);
        x.fact(false, 5, 3, 0);
        CHECK.due("not too large, with a fact", x.run(1), 1);
        CHECK.due("the first one still", x.run(0), LARGE);
    }

    private static void runAtItsEnds() {
        CHECK.sentence("promise 9", "How many answers a question has");
        QlRewrite x = new QlRewrite();
        x.question(2);
        x.atom(0, false, 9, 0, 0);
        x.atom(0, false, 9, 1, 0);
        x.question(1);
        x.atom(1, false, 9, 0, 0);
        for (int thing = 0; thing < 12; thing++) {
            CHECK.due("pairs of " + thing, x.run(0), thing * thing);
            CHECK.due("of " + thing, x.run(1), thing);
            x.fact(false, 9, thing, 0);
        }
        CHECK.due("pairs of all", x.run(0), 144);
        CHECK.due("of all", x.run(1), 12);
        for (int thing = 0; thing < 12; thing++) {
            x.forget(false, 9, thing, 0);
            CHECK.due("pairs without " + thing, x.run(0), (11 - thing) * (11 - thing));
        }
    }

    private static void runWithoutAnswers() {
        CHECK.sentence("promise 9", "(without answers: 1 when something is found, else 0)");
        QlRewrite x = new QlRewrite();
        x.question(0);
        x.atom(0, true, 7, 0, 1);
        CHECK.due("nothing", x.run(0), 0);
        x.fact(false, 7, 0, 1);
        CHECK.due("a class is no role", x.run(0), 0);
        x.fact(true, 7, 11, 11);
        CHECK.due("one way", x.run(0), 1);
        x.fact(true, 7, 0, 11);
        x.fact(true, 7, 11, 0);
        CHECK.due("three ways", x.run(0), 1);
        x.axiom(1, 0, 14);
        x.fact(true, 0, 5, 5);
        CHECK.due("two forms", x.run(0), 1);
        x.forget(true, 7, 11, 11);
        x.forget(true, 7, 0, 11);
        x.forget(true, 7, 11, 0);
        CHECK.due("the second form alone", x.run(0), 1);
        x.forget(true, 0, 5, 5);
        CHECK.due("nothing again", x.run(0), 0);
    }

    private static void runOfAllFormsTogether() {
        CHECK.sentence("promise 9", "all forms together");
        QlRewrite x = new QlRewrite();
        x.axiom(0, 1, 0);
        x.axiom(0, 20, 1);
        x.question(1);
        x.atom(0, false, 0, 0, 0);
        x.fact(false, 0, 4, 0);
        CHECK.due("by the first form", x.run(0), 1);
        x.fact(false, 1, 4, 0);
        x.fact(true, 0, 4, 4);
        CHECK.due("the same by all three", x.run(0), 1);
        x.fact(false, 1, 5, 0);
        x.fact(true, 0, 6, 4);
        CHECK.due("one more by each of two", x.run(0), 3);
        CHECK.answers(x, 0, 64, 80, 96);
    }

    private static void runAfterRefusedCalls() {
        CHECK.sentence("promise 9", "How many answers a question has");
        QlRewrite x = new QlRewrite();
        x.question(1);
        x.atom(0, false, 0, 0, 0);
        x.fact(false, 0, 11, 0);
        CHECK.due("one", x.run(0), 1);
        x.fact(false, 0, 12, 0);
        x.fact(false, 0, -1, 0);
        x.axiom(0, 10, 0);
        x.atom(0, false, 10, 0, 0);
        x.forget(false, 0, 12, 0);
        CHECK.due("after refused calls", x.run(0), 1);
        CHECK.due("the same one", x.answer(0, 0), 16 * 11);
        x.fact(false, 0, 11, 5);
        CHECK.due("told again", x.run(0), 1);
    }

    // Terms: what a form finds

    private static void answersInNoAtom() {
        CHECK.sentence("Terms", "they may stand in no atom: then nothing answers");
        QlRewrite x = new QlRewrite();
        x.fact(true, 0, 0, 0);
        x.fact(false, 0, 0, 0);
        x.question(1);
        x.atom(0, false, 0, 1, 0);
        x.question(2);
        x.atom(1, true, 0, 0, 0);
        x.question(2);
        x.atom(2, true, 0, 1, 1);
        x.question(2);
        x.atom(3, true, 0, 2, 2);
        for (int q = 0; q < 4; q++) {
            CHECK.due("forms(" + q + ")", x.forms(q), 1);
            CHECK.due("run(" + q + ")", x.run(q), 0);
            CHECK.due("answer(" + q + ", 0)", x.answer(q, 0), BAD);
            CHECK.due("why(" + q + ", 0)", x.why(q, 0), BAD);
        }
        x.atom(1, false, 0, 1, 0);
        CHECK.due("both stand in atoms then", x.run(1), 1);
        CHECK.due("why", x.why(1, 0), 0);
    }

    private static void anyAnythingAtEachPlace() {
        CHECK.sentence("Terms", "ANY anything at each place");
        QlRewrite x = new QlRewrite();
        x.question(0);
        x.atom(0, true, 0, 2, 3);
        x.question(1);
        x.atom(1, true, 0, 0, 2);
        x.atom(1, true, 1, 0, 3);
        x.question(1);
        x.atom(2, true, 0, 0, 2);
        x.atom(2, true, 1, 0, 2);
        x.fact(true, 0, 0, 11);
        x.fact(true, 1, 0, 5);
        CHECK.due("ANY to ANY, two things", x.run(0), 1);
        CHECK.due("two ANY, two things", x.run(1), 1);
        CHECK.due("one variable, two things", x.run(2), 0);
        x.fact(true, 1, 0, 11);
        CHECK.due("one variable, one thing", x.run(2), 1);
        // What is of one class leads; another ANY need not be of it.
        x.question(1);
        x.atom(3, false, 0, 0, 0);
        x.atom(3, false, 1, 5, 0);
        CHECK.due("neither", x.run(3), 0);
        x.fact(false, 0, 7, 0);
        CHECK.due("no ANY", x.run(3), 0);
        x.fact(false, 1, 8, 0);
        CHECK.due("ANY is another", x.run(3), 1);
    }

    private static void allAtomsAreFacts() {
        CHECK.sentence("Terms", "so that all its atoms are facts");
        for (int missing = 0; missing <= 4; missing++) {
            QlRewrite x = new QlRewrite();
            x.question(1);
            x.atom(0, true, 0, 0, 1);
            x.atom(0, true, 1, 1, 2);
            x.atom(0, false, 2, 2, 0);
            x.atom(0, true, 3, 1, 4);
            x.fact(true, 0, 9, missing == 0 ? 8 : 10);
            x.fact(true, 1, 10, missing == 1 ? 8 : 11);
            x.fact(false, 2, missing == 2 ? 8 : 11, 0);
            x.fact(true, 3, missing == 3 ? 8 : 10, 10);
            CHECK.due("without atom " + missing, x.run(0), missing == 4 ? 1 : 0);
        }
    }

    private static void oneThingForTwoVariables() {
        CHECK.sentence("Terms", "for all ways to give things to its variables");
        QlRewrite x = new QlRewrite();
        x.question(2);
        x.atom(0, true, 0, 0, 2);
        x.atom(0, true, 1, 2, 3);
        x.atom(0, true, 2, 3, 1);
        x.fact(true, 0, 4, 4);
        x.fact(true, 1, 4, 4);
        CHECK.due("not yet", x.run(0), 0);
        x.fact(true, 2, 4, 4);
        CHECK.answers(x, 0, 16 * 4 + 4);
        x.fact(true, 0, 11, 0);
        x.fact(true, 1, 0, 0);
        x.fact(true, 2, 0, 11);
        CHECK.answers(x, 0, 68, 187);
        x.fact(true, 1, 4, 0);
        CHECK.answers(x, 0, 68, 16 * 4 + 11, 187);
    }

    // Promise 10

    private static void answerOfNone() {
        CHECK.sentence("promise 10", "BAD .. as forms()");
        QlRewrite x = new QlRewrite();
        x.fact(false, 0, 0, 0);
        CHECK.due("nothing asked", x.answer(0, 0), BAD);
        x.question(1);
        CHECK.due("without atoms", x.answer(0, 0), BAD);
        x.atom(0, false, 0, 0, 0);
        CHECK.due("with an atom", x.answer(0, 0), 0);
        for (int wrong : Check.outside(0, 0)) {
            CHECK.due("answer(" + wrong + ", 0)", x.answer(wrong, 0), BAD);
        }
        x.clear();
        CHECK.due("cleared", x.answer(0, 0), BAD);
    }

    private static void noSuchAnswer() {
        CHECK.sentence("promise 10", "BAD when there is none such");
        QlRewrite x = new QlRewrite();
        x.question(1);
        x.atom(0, false, 3, 0, 0);
        CHECK.due("of none: answer(0, 0)", x.answer(0, 0), BAD);
        CHECK.due("of none: answer(0, -1)", x.answer(0, -1), BAD);
        x.fact(false, 3, 11, 0);
        x.fact(false, 3, 0, 0);
        CHECK.due("the first", x.answer(0, 0), 0);
        CHECK.due("the last", x.answer(0, 1), 16 * 11);
        for (int wrong : Check.outside(0, 1)) {
            CHECK.due("of two: answer(0, " + wrong + ")", x.answer(0, wrong), BAD);
        }
        x.forget(false, 3, 0, 0);
        CHECK.due("the only one", x.answer(0, 0), 16 * 11);
        CHECK.due("none behind it", x.answer(0, 1), BAD);
        QlRewrite y = allPairs();
        CHECK.due("of all: the first", y.answer(0, 0), 0);
        CHECK.due("of all: the last", y.answer(0, 143), 16 * 11 + 11);
        for (int wrong : Check.outside(0, 143)) {
            CHECK.due("of all: answer(0, " + wrong + ")", y.answer(0, wrong), BAD);
        }
    }

    private static void answersSorted() {
        CHECK.sentence("promise 10", "sorted (by the first one, then the second one)");
        QlRewrite x = new QlRewrite();
        x.axiom(1, 3, 0);
        x.question(2);
        x.atom(0, true, 0, 0, 1);
        // Later forms find some that come first, and the facts come in no order.
        x.fact(true, 0, 11, 0);
        x.fact(true, 0, 1, 11);
        x.fact(true, 0, 1, 0);
        x.fact(true, 1, 11, 0);
        x.fact(true, 1, 2, 1);
        x.fact(true, 1, 0, 0);
        CHECK.answers(x, 0, 0, 11, 16, 16 + 2, 16 + 11, 16 * 11);
        x.question(2);
        x.atom(1, true, 0, 1, 0);
        CHECK.answers(x, 1, 0, 1, 11, 32 + 1, 16 * 11, 16 * 11 + 1);
    }

    private static void answerOfTwoThings() {
        CHECK.sentence("promise 10", "16 times the first one and the second one");
        QlRewrite x = allPairs();
        for (int i = 0; i < 144; i++) {
            CHECK.due("answer(0, " + i + ")", x.answer(0, i), 16 * (i / 12) + i % 12);
        }
    }

    private static void answerOfNoSecond() {
        CHECK.sentence("promise 10", "(0 when there is none)");
        QlRewrite x = new QlRewrite();
        x.question(1);
        x.atom(0, true, 7, 0, 1);
        x.fact(true, 7, 11, 11);
        x.fact(true, 7, 11, 10);
        CHECK.answers(x, 0, 16 * 11);
        x.question(0);
        x.atom(1, true, 7, 0, 1);
        CHECK.answers(x, 1, 0);
        // The second answer is the first one here, and not none.
        x.question(2);
        x.atom(2, false, 0, 0, 0);
        x.atom(2, false, 0, 1, 0);
        x.fact(false, 0, 11, 0);
        CHECK.answers(x, 2, 16 * 11 + 11);
    }

    private static void answerOfTooLarge() {
        CHECK.sentence("promise 10", "LARGE, as forms()");
        QlRewrite x = ninetyOne();
        CHECK.due("answer(0, 0)", x.answer(0, 0), LARGE);
        CHECK.due("answer(1, 0)", x.answer(1, 0), BAD);
        x.question(1);
        CHECK.due("without atoms", x.answer(1, 0), BAD);
        x.atom(1, false, 0, 0, 0);
        CHECK.due("not too large", x.answer(1, 0), 0);
        CHECK.due("answer(0, 0) again", x.answer(0, 0), LARGE);
    }

    // Promise 11

    private static void whyOfNone() {
        CHECK.sentence("promise 11", "BAD .. as forms()");
        QlRewrite x = new QlRewrite();
        x.fact(false, 0, 0, 0);
        CHECK.due("nothing asked", x.why(0, 0), BAD);
        x.question(1);
        CHECK.due("without atoms", x.why(0, 0), BAD);
        x.atom(0, false, 0, 0, 0);
        CHECK.due("with an atom", x.why(0, 0), 0);
        for (int wrong : Check.outside(0, 0)) {
            CHECK.due("why(" + wrong + ", 0)", x.why(wrong, 0), BAD);
        }
        x.clear();
        CHECK.due("cleared", x.why(0, 0), BAD);
    }

    private static void whyOfNoSuchAnswer() {
        CHECK.sentence("promise 11", "BAD when none does");
        QlRewrite x = allPairs();
        CHECK.due("the least", x.why(0, 0), 0);
        // The second form is the one where both are the same.
        CHECK.due("forms", x.forms(0), 2);
        CHECK.due("the greatest", x.why(0, 16 * 11 + 11), 0);
        for (int[] row : new int[][] {Check.outside(0, 16 * 11 + 11), {191, 192, 16 * 12, 16 * 15 + 15}}) {
            for (int wrong : row) {
                CHECK.due("why(0, " + wrong + ")", x.why(0, wrong), BAD);
            }
        }
        for (int first = 0; first < 12; first++) {
            for (int second = 12; second < 16; second++) {
                CHECK.due("no such thing", x.why(0, 16 * first + second), BAD);
            }
        }
        x.forget(false, 9, 11, 0);
        CHECK.due("no more", x.why(0, 16 * 11 + 11), BAD);
        CHECK.due("nor with another", x.why(0, 16 * 11), BAD);
        CHECK.due("the greatest then", x.why(0, 16 * 10 + 10), 0);
        x.question(1);
        x.atom(1, false, 9, 0, 0);
        CHECK.due("one answer", x.why(1, 16 * 10), 0);
        CHECK.due("a second one, and there is none", x.why(1, 16 * 10 + 10), BAD);
        CHECK.due("its place is no number", x.why(1, 10), BAD);
    }

    private static void whyWithoutAnswers() {
        CHECK.sentence("promise 11", "(0 for a question without answers: the first that finds anything)");
        QlRewrite x = new QlRewrite();
        x.axiom(0, 1, 0);
        x.axiom(0, 21, 1);
        x.question(0);
        x.atom(0, false, 0, 0, 0);
        CHECK.due("nothing found", x.why(0, 0), BAD);
        x.fact(true, 0, 3, 4);
        CHECK.due("by the last form", x.why(0, 0), 2);
        x.fact(false, 1, 11, 0);
        CHECK.due("by the second form", x.why(0, 0), 1);
        x.fact(false, 0, 5, 0);
        CHECK.due("by its own", x.why(0, 0), 0);
        for (int[] row : new int[][] {Check.outside(0, 0), {16 * 5, 16 * 11, 16 * 4, 187}}) {
            for (int wrong : row) {
                CHECK.due("why(0, " + wrong + ")", x.why(0, wrong), BAD);
            }
        }
        x.forget(false, 0, 5, 0);
        x.forget(false, 1, 11, 0);
        x.forget(true, 0, 3, 4);
        CHECK.due("nothing found again", x.why(0, 0), BAD);
    }

    private static void whyTheFirstForm() {
        CHECK.sentence("promise 11", "The first form that finds an answer of a question");
        QlRewrite x = new QlRewrite();
        for (int i = 0; i < 9; i++) {
            x.axiom(0, i + 1, i);
        }
        x.question(1);
        x.atom(0, false, 0, 0, 0);
        for (int i = 9; i >= 0; i--) {
            x.fact(false, i, 11, 0);
            CHECK.due("by class " + i, x.why(0, 16 * 11), i);
        }
        for (int i = 0; i < 9; i++) {
            x.forget(false, i, 11, 0);
            CHECK.due("without class " + i, x.why(0, 16 * 11), i + 1);
        }
        x.fact(false, 0, 0, 0);
        CHECK.due("another by its own", x.why(0, 0), 0);
        CHECK.due("this still by the last", x.why(0, 16 * 11), 9);
        x.forget(false, 9, 11, 0);
        CHECK.due("by none", x.why(0, 16 * 11), BAD);
    }

    private static void whyOfTooLarge() {
        CHECK.sentence("promise 11", "LARGE as forms()");
        QlRewrite x = ninetyOne();
        CHECK.due("why(0, 0)", x.why(0, 0), LARGE);
        CHECK.due("why(1, 0)", x.why(1, 0), BAD);
        x.question(1);
        CHECK.due("without atoms", x.why(1, 0), BAD);
        x.atom(1, false, 0, 0, 0);
        CHECK.due("not too large", x.why(1, 0), 0);
        CHECK.due("why(0, 0) again", x.why(0, 0), LARGE);
    }
}
