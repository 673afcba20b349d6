/**
 * Promises 1 to 6, 13 and 14: a test for each sentence that names a boundary case. A remark at the
 * head of a test says which promise and which sentence it is. No object gets more than 512 calls.
 */
public final class StateEdgesTest {
    private static final int BAD = QlRewrite.BAD;
    private static final int FULL = QlRewrite.FULL;
    private static final int LEAST = Integer.MIN_VALUE;
    private static final int GREATEST = Integer.MAX_VALUE;
    private static final Check CHECK = new Check();

    public static void main(String[] args) {
        nothingThereYet();
        objectsShareNothing();
        stillGoodAtCall512();
        noSuchKind();
        noSuchSort();
        noSuchWay();
        axiomsAreNumbered();
        fullOfAxioms();
        factsThatAreWrong();
        secondThingOfClass();
        factThatIsOne();
        fullOfFacts();
        sixtyOfEachKind();
        forgetOfNone();
        forgetOfWrong();
        forgetTakesJustOne();
        forgetAllAndAgain();
        noSuchNumberOfAnswers();
        fullOfQuestions();
        questionWithoutAtoms();
        atomOfNoQuestion();
        atomsThatAreWrong();
        secondVariableOfClass();
        fullOfAtoms();
        atomThatItHas();
        countsAtTheirEnds();
        countsOfRefused();
        clearOfNone();
        clearOfAll();
        clearLeavesTheRest();
        CHECK.end();
    }

    /** Something of each kind, and room for more. */
    private static QlRewrite some() {
        QlRewrite x = new QlRewrite();
        x.axiom(0, 1, 0);
        x.axiom(0, 21, 1);
        x.axiom(1, 3, 0);
        x.axiom(2, 0, 9);
        x.axiom(3, 0, 14);
        x.fact(false, 1, 2, 0);
        x.fact(true, 0, 3, 4);
        x.fact(true, 1, 5, 6);
        x.question(1);
        x.atom(0, false, 0, 0, 0);
        x.question(2);
        x.atom(1, true, 0, 0, 1);
        x.question(0);
        x.atom(2, true, 7, 3, 4);
        return x;
    }

    // Promise 1

    private static void nothingThereYet() {
        CHECK.sentence("promise 1", "No axioms, facts, questions.");
        QlRewrite x = new QlRewrite();
        for (int what = 0; what < 3; what++) {
            CHECK.due("count(" + what + ")", x.count(what), 0);
        }
        CHECK.due("broken()", x.broken(), BAD);
        CHECK.due("forget of a class", x.forget(false, 0, 0, 0), 0);
        CHECK.due("forget of a role", x.forget(true, 7, 11, 11), 0);
        CHECK.due("atom(0, ..)", x.atom(0, false, 0, 0, 0), BAD);
        CHECK.due("forms(0)", x.forms(0), BAD);
        CHECK.due("form(0, 0, 0)", x.form(0, 0, 0), BAD);
        CHECK.due("run(0)", x.run(0), BAD);
        CHECK.due("answer(0, 0)", x.answer(0, 0), BAD);
        CHECK.due("why(0, 0)", x.why(0, 0), BAD);
        CHECK.due("clear()", x.clear(), 0);
        CHECK.due("the first axiom", x.axiom(2, 0, 0), 0);
        CHECK.due("it breaks no fact", x.broken(), BAD);
        CHECK.due("the first question", x.question(0), 0);
        CHECK.due("its first atom", x.atom(0, false, 0, 0, 0), 1);
        CHECK.due("it finds nothing", x.run(0), 0);
        CHECK.due("the first fact", x.fact(false, 0, 0, 0), 1);
    }

    private static void objectsShareNothing() {
        CHECK.sentence("promise 1", "No axioms, facts, questions.");
        QlRewrite x = some();
        String before = Check.told(x);
        QlRewrite y = new QlRewrite();
        for (int what = 0; what < 3; what++) {
            CHECK.due("beside another: count(" + what + ")", y.count(what), 0);
        }
        y.fact(true, 7, 1, 1);
        y.axiom(0, 5, 0);
        y.question(1);
        y.atom(0, false, 5, 0, 0);
        y.forget(true, 0, 3, 4);
        y.clear();
        CHECK.unchanged(x, before);
    }

    private static void stillGoodAtCall512() {
        CHECK.sentence("What it is", "An object is used for at most 512 calls after it has been made");
        QlRewrite x = new QlRewrite();
        x.axiom(2, 0, 1);
        x.fact(false, 0, 0, 0);
        x.question(1);
        x.atom(0, false, 0, 0, 0);
        for (int call = 5; call <= 508; call += 4) {
            CHECK.due("call " + call, x.fact(false, 1, 0, 0), 1);
            CHECK.due("call " + (call + 1), x.broken(), 0);
            CHECK.due("call " + (call + 2), x.forget(false, 1, 0, 0), 1);
            CHECK.due("call " + (call + 3), x.broken(), BAD);
        }
        CHECK.due("call 509", x.forms(0), 1);
        CHECK.due("call 510", x.run(0), 1);
        CHECK.due("call 511", x.clear(), 1);
        CHECK.due("call 512", x.question(2), 0);
    }

    // Promise 2

    private static void noSuchKind() {
        CHECK.sentence("promise 2", "BAD: no such kind");
        QlRewrite x = some();
        String before = Check.told(x);
        for (int kind : Check.outside(0, 3)) {
            CHECK.due("axiom(" + kind + ", 0, 0)", x.axiom(kind, 0, 0), BAD);
            CHECK.due("axiom(" + kind + ", 20, 1)", x.axiom(kind, 20, 1), BAD);
        }
        CHECK.unchanged(x, before);
        CHECK.due("the least kind then", x.axiom(0, 0, 0), 5);
        CHECK.due("the greatest kind then", x.axiom(3, 0, 0), 6);
    }

    private static void noSuchSort() {
        CHECK.sentence("promise 2", "BAD: no such .. sort");
        for (int kind = 0; kind <= 2; kind += 2) {
            QlRewrite x = some();
            String before = Check.told(x);
            for (int[] row : new int[][] {Check.outside(0, 9), Check.outside(20, 35), {15, 16, 39, 40}}) {
                for (int wrong : row) {
                    CHECK.due("axiom(" + kind + ", " + wrong + ", 0)", x.axiom(kind, wrong, 0), BAD);
                    CHECK.due("axiom(" + kind + ", 35, " + wrong + ")", x.axiom(kind, 35, wrong), BAD);
                }
            }
            CHECK.due("both wrong", x.axiom(kind, 10, 36), BAD);
            CHECK.unchanged(x, before);
            int number = 5;
            for (int good : new int[] {0, 9, 20, 35}) {
                CHECK.due("axiom(" + kind + ", " + good + ", 0)", x.axiom(kind, good, 0), number);
                CHECK.due("axiom(" + kind + ", 0, " + good + ")", x.axiom(kind, 0, good), number + 1);
                number += 2;
            }
        }
    }

    private static void noSuchWay() {
        CHECK.sentence("promise 2", "BAD: no such .. way");
        for (int kind = 1; kind <= 3; kind += 2) {
            QlRewrite x = some();
            String before = Check.told(x);
            for (int[] row : new int[][] {Check.outside(0, 15), {20, 35}}) {
                for (int wrong : row) {
                    CHECK.due("axiom(" + kind + ", " + wrong + ", 0)", x.axiom(kind, wrong, 0), BAD);
                    CHECK.due("axiom(" + kind + ", 15, " + wrong + ")", x.axiom(kind, 15, wrong), BAD);
                }
            }
            CHECK.due("both wrong", x.axiom(kind, -1, 16), BAD);
            CHECK.unchanged(x, before);
            int number = 5;
            for (int good : new int[] {0, 9, 10, 15}) {
                CHECK.due("axiom(" + kind + ", " + good + ", 0)", x.axiom(kind, good, 0), number);
                CHECK.due("axiom(" + kind + ", 0, " + good + ")", x.axiom(kind, 0, good), number + 1);
                number += 2;
            }
        }
    }

    private static void axiomsAreNumbered() {
        CHECK.sentence("promise 2", "An axiom: its number.");
        QlRewrite x = new QlRewrite();
        CHECK.due("the first", x.axiom(0, 1, 0), 0);
        CHECK.due("the same once more", x.axiom(0, 1, 0), 1);
        CHECK.due("one of no use", x.axiom(0, 5, 5), 2);
        CHECK.due("one that is refused", x.axiom(0, 5, 10), BAD);
        CHECK.due("of another kind", x.axiom(3, 1, 0), 3);
        x.question(1);
        x.clear();
        CHECK.due("after clear()", x.axiom(1, 1, 0), 4);
        CHECK.due("all five", x.count(0), 5);
    }

    private static void fullOfAxioms() {
        CHECK.sentence("promise 2", "FULL (AXIOMS, at most 16, are numbered from 0)");
        QlRewrite x = some();
        for (int i = 5; i < 16; i++) {
            CHECK.due("axiom " + i, x.axiom(i % 4, 8, 8), i);
        }
        String before = Check.told(x);
        CHECK.due("one more of kind 0", x.axiom(0, 2, 0), FULL);
        CHECK.due("one more of kind 1", x.axiom(1, 4, 0), FULL);
        CHECK.due("one more of kind 2", x.axiom(2, 1, 1), FULL);
        CHECK.due("one more of kind 3", x.axiom(3, 0, 0), FULL);
        CHECK.due("one that is there already", x.axiom(0, 1, 0), FULL);
        CHECK.due("a wrong kind more", x.axiom(4, 0, 0), BAD);
        CHECK.due("a wrong sort more", x.axiom(0, 0, 10), BAD);
        CHECK.due("a wrong way more", x.axiom(3, 16, 0), BAD);
        CHECK.unchanged(x, before);
        CHECK.due("clear() gives no room", x.clear(), 3);
        CHECK.due("one more after clear()", x.axiom(0, 0, 0), FULL);
        CHECK.due("axioms", x.count(0), 16);
        QlRewrite y = new QlRewrite();
        for (int i = 0; i < 15; i++) {
            y.axiom(0, 0, 0);
        }
        y.question(1);
        y.atom(0, false, 9, 0, 0);
        CHECK.due("forms by 15", y.forms(0), 1);
        CHECK.due("the last one that has room", y.axiom(0, 8, 9), 15);
        CHECK.due("forms by 16", y.forms(0), 2);
        CHECK.due("the first one that has none", y.axiom(0, 7, 9), FULL);
        CHECK.due("forms still by 16", y.forms(0), 2);
    }

    // Promise 3

    private static void factsThatAreWrong() {
        CHECK.sentence("promise 3", "BAD");
        QlRewrite x = some();
        String before = Check.told(x);
        for (int wrong : Check.outside(0, 9)) {
            CHECK.due("class " + wrong, x.fact(false, wrong, 0, 0), BAD);
        }
        for (int wrong : Check.outside(0, 7)) {
            CHECK.due("role " + wrong, x.fact(true, wrong, 0, 0), BAD);
        }
        for (int[] row : new int[][] {Check.outside(0, 11), {15, 16, 32, 43}}) {
            for (int wrong : row) {
                CHECK.due("thing " + wrong, x.fact(false, 0, wrong, 0), BAD);
                CHECK.due("from " + wrong, x.fact(true, 0, wrong, 0), BAD);
                CHECK.due("to " + wrong, x.fact(true, 0, 0, wrong), BAD);
            }
        }
        CHECK.due("role 9 is none, class 9 is one", x.fact(true, 9, 0, 0), BAD);
        CHECK.unchanged(x, before);
        CHECK.due("the least class and thing", x.fact(false, 0, 0, 0), 1);
        CHECK.due("the greatest class and thing", x.fact(false, 9, 11, 0), 1);
        CHECK.due("the least role and things", x.fact(true, 0, 0, 0), 1);
        CHECK.due("the greatest role and things", x.fact(true, 7, 11, 11), 1);
        CHECK.due("facts", x.count(1), 7);
    }

    private static void secondThingOfClass() {
        CHECK.sentence("promise 3", "role = false: thing a is of a class (b counts for nothing)");
        int thing = 0;
        QlRewrite x = new QlRewrite();
        for (int b : new int[] {LEAST, -1, 11, 12, GREATEST}) {
            CHECK.due("class 4, b " + b, x.fact(false, 4, thing, b), 1);
            for (int other : new int[] {GREATEST, 0, LEAST}) {
                CHECK.due("class 4 again, b " + other, x.fact(false, 4, thing, other), 0);
            }
            thing++;
        }
        CHECK.due("facts", x.count(1), 5);
    }

    private static void factThatIsOne() {
        CHECK.sentence("promise 3", "A fact: 1; 0 when it is one already.");
        QlRewrite x = new QlRewrite();
        CHECK.due("class 3 of 2", x.fact(false, 3, 2, 5), 1);
        CHECK.due("class 3 of 2 again", x.fact(false, 3, 2, 5), 0);
        CHECK.due("role 3 is another", x.fact(true, 3, 2, 5), 1);
        CHECK.due("role 3 again", x.fact(true, 3, 2, 5), 0);
        CHECK.due("turned round is another", x.fact(true, 3, 5, 2), 1);
        CHECK.due("another thing", x.fact(false, 3, 3, 5), 1);
        CHECK.due("another class", x.fact(false, 4, 2, 5), 1);
        CHECK.due("from another thing", x.fact(true, 3, 3, 5), 1);
        CHECK.due("to another thing", x.fact(true, 3, 2, 6), 1);
        CHECK.due("another role", x.fact(true, 4, 2, 5), 1);
        CHECK.due("facts", x.count(1), 8);
        x.axiom(0, 3, 0);
        x.question(1);
        x.atom(0, false, 0, 0, 0);
        CHECK.due("what follows is no fact yet", x.run(0), 2);
        CHECK.due("so it can be one", x.fact(false, 0, 2, 0), 1);
    }

    private static void fullOfFacts() {
        CHECK.sentence("promise 3", "FULL (FACTS, at most 60)");
        QlRewrite x = some();
        for (int i = 3; i < 60; i++) {
            CHECK.due("fact " + i, x.fact(i % 2 == 0, 2 + i / 12, i % 12, 10), 1);
        }
        CHECK.due("facts", x.count(1), 60);
        String before = Check.told(x);
        CHECK.due("one more of a class", x.fact(false, 0, 11, 0), FULL);
        CHECK.due("one more of a role", x.fact(true, 0, 11, 11), FULL);
        CHECK.due("one more that breaks", x.fact(false, 9, 2, 0), FULL);
        CHECK.due("one that is one already", x.fact(true, 0, 3, 4), 0);
        CHECK.due("another that is one already", x.fact(false, 1, 2, 0), 0);
        CHECK.due("a wrong class more", x.fact(false, 10, 0, 0), BAD);
        CHECK.due("a wrong role more", x.fact(true, 8, 0, 0), BAD);
        CHECK.due("a wrong thing more", x.fact(true, 0, 0, 12), BAD);
        CHECK.due("the refused ones are none", x.forget(false, 0, 11, 0), 0);
        CHECK.due("nor of a role", x.forget(true, 0, 11, 11), 0);
        CHECK.unchanged(x, before);
        CHECK.due("one goes", x.forget(true, 0, 3, 4), 1);
        CHECK.due("then one has room", x.fact(true, 0, 11, 11), 1);
        CHECK.due("and but one", x.fact(true, 0, 3, 4), FULL);
        CHECK.due("facts", x.count(1), 60);
    }

    private static void sixtyOfEachKind() {
        CHECK.sentence("promise 3", "FULL (FACTS, at most 60)");
        QlRewrite x = new QlRewrite();
        QlRewrite y = new QlRewrite();
        for (int i = 0; i < 60; i++) {
            CHECK.due("class " + i, x.fact(false, i / 12, i % 12, 0), 1);
            CHECK.due("role " + i, y.fact(true, 7, i / 12, i % 12), 1);
        }
        CHECK.due("class 5 after 60", x.fact(false, 5, 0, 0), FULL);
        CHECK.due("role 0 after 60 of classes", x.fact(true, 0, 0, 0), FULL);
        CHECK.due("role 7 after 60", y.fact(true, 7, 5, 0), FULL);
        CHECK.due("class 0 after 60 of roles", y.fact(false, 0, 0, 0), FULL);
        x.question(2);
        x.atom(0, false, 0, 0, 0);
        x.atom(0, false, 4, 1, 0);
        CHECK.due("all are found", x.run(0), 144);
        y.question(2);
        y.atom(0, true, 7, 0, 1);
        CHECK.due("all that were told are found", y.run(0), 60);
    }

    // Promise 4

    private static void forgetOfNone() {
        CHECK.sentence("promise 4", "0 when it is none");
        QlRewrite x = some();
        String before = Check.told(x);
        CHECK.due("another class", x.forget(false, 0, 2, 0), 0);
        CHECK.due("another thing", x.forget(false, 1, 3, 0), 0);
        CHECK.due("a role, not the class", x.forget(true, 1, 2, 0), 0);
        CHECK.due("a class, not the role", x.forget(false, 0, 3, 4), 0);
        CHECK.due("turned round", x.forget(true, 0, 4, 3), 0);
        CHECK.due("from another thing", x.forget(true, 0, 2, 4), 0);
        CHECK.due("to another thing", x.forget(true, 0, 3, 5), 0);
        CHECK.due("another role", x.forget(true, 2, 3, 4), 0);
        CHECK.due("what only follows", x.forget(true, 0, 6, 5), 0);
        CHECK.unchanged(x, before);
        CHECK.due("one that is", x.forget(true, 0, 3, 4), 1);
        CHECK.due("the same again", x.forget(true, 0, 3, 4), 0);
        CHECK.due("facts", x.count(1), 2);
    }

    private static void forgetOfWrong() {
        CHECK.sentence("promise 4", "BAD");
        QlRewrite x = some();
        String before = Check.told(x);
        for (int wrong : Check.outside(0, 9)) {
            CHECK.due("class " + wrong, x.forget(false, wrong, 2, 0), BAD);
        }
        for (int wrong : Check.outside(0, 7)) {
            CHECK.due("role " + wrong, x.forget(true, wrong, 3, 4), BAD);
        }
        for (int[] row : new int[][] {Check.outside(0, 11), {16, 34, 35, 36}}) {
            for (int wrong : row) {
                CHECK.due("thing " + wrong, x.forget(false, 1, wrong, 0), BAD);
                CHECK.due("from " + wrong, x.forget(true, 0, wrong, 4), BAD);
                CHECK.due("to " + wrong, x.forget(true, 0, 3, wrong), BAD);
            }
        }
        CHECK.unchanged(x, before);
        CHECK.due("b counts for nothing with a class", x.forget(false, 1, 2, LEAST), 1);
        x.fact(false, 9, 11, 0);
        CHECK.due("the greatest class and thing", x.forget(false, 9, 11, GREATEST), 1);
        x.fact(true, 7, 11, 11);
        CHECK.due("the greatest role and things", x.forget(true, 7, 11, 11), 1);
        x.fact(true, 0, 0, 0);
        CHECK.due("the least role and things", x.forget(true, 0, 0, 0), 1);
        CHECK.due("two are left", x.count(1), 2);
    }

    private static void forgetTakesJustOne() {
        CHECK.sentence("promise 4", "A fact goes: 1");
        QlRewrite x = new QlRewrite();
        x.fact(true, 2, 0, 1);
        x.fact(true, 2, 0, 2);
        x.fact(true, 2, 3, 1);
        x.fact(false, 2, 0, 1);
        x.question(1);
        x.atom(0, true, 2, 0, 7);
        x.question(1);
        x.atom(1, true, 2, 7, 0);
        x.question(2);
        x.atom(2, true, 2, 0, 1);
        x.question(1);
        x.atom(3, false, 2, 0, 0);
        CHECK.due("0 to 1 goes", x.forget(true, 2, 0, 1), 1);
        CHECK.answers(x, 0, 0, 16 * 3);
        CHECK.answers(x, 1, 16, 16 * 2);
        CHECK.answers(x, 2, 2, 16 * 3 + 1);
        CHECK.answers(x, 3, 0);
        CHECK.due("0 to 2 goes", x.forget(true, 2, 0, 2), 1);
        CHECK.answers(x, 0, 16 * 3);
        CHECK.answers(x, 1, 16);
        CHECK.due("3 to 1 goes", x.forget(true, 2, 3, 1), 1);
        CHECK.answers(x, 0);
        CHECK.answers(x, 1);
        CHECK.answers(x, 3, 0);
    }

    private static void forgetAllAndAgain() {
        CHECK.sentence("promise 4", "A fact goes: 1");
        QlRewrite x = new QlRewrite();
        x.axiom(2, 0, 0);
        x.question(0);
        x.atom(0, false, 0, 5, 0);
        for (int round = 0; round < 2; round++) {
            for (int i = 0; i < 60; i++) {
                CHECK.due("comes", x.fact(false, i / 12, i % 12, 0), 1);
            }
            CHECK.due("none more", x.fact(false, 9, 0, 0), FULL);
            CHECK.due("found", x.run(0), 1);
            CHECK.due("broken", x.broken(), 0);
            for (int i = 0; i < 60; i++) {
                CHECK.due("goes", x.forget(false, i / 12, i % 12, 0), 1);
            }
            CHECK.due("none left", x.count(1), 0);
            CHECK.due("none left to go", x.forget(false, 0, 0, 0), 0);
            CHECK.due("nothing found", x.run(0), 0);
            CHECK.due("not broken", x.broken(), BAD);
        }
        CHECK.due("the axiom stays", x.count(0), 1);
        CHECK.due("the question stays", x.count(2), 1);
    }

    // Promise 5

    private static void noSuchNumberOfAnswers() {
        CHECK.sentence("promise 5", "BAD (A QUESTION has 0 .. 2 ANSWERS)");
        QlRewrite x = some();
        String before = Check.told(x);
        for (int wrong : Check.outside(0, 2)) {
            CHECK.due("question(" + wrong + ")", x.question(wrong), BAD);
        }
        CHECK.unchanged(x, before);
        CHECK.due("with none", x.question(0), 3);
        CHECK.due("with two", x.question(2), 4);
        CHECK.due("with one", x.question(1), 5);
    }

    private static void fullOfQuestions() {
        CHECK.sentence("promise 5", "FULL (There are at most 6 questions)");
        QlRewrite x = some();
        CHECK.due("the last but two", x.question(0), 3);
        CHECK.due("the last but one", x.question(1), 4);
        CHECK.due("the last one that has room", x.question(2), 5);
        String before = Check.told(x);
        for (int answers = 0; answers <= 2; answers++) {
            CHECK.due("the seventh, with " + answers, x.question(answers), FULL);
        }
        CHECK.due("a wrong seventh", x.question(3), BAD);
        CHECK.due("another wrong seventh", x.question(-1), BAD);
        CHECK.due("it is none", x.atom(6, false, 0, 0, 0), BAD);
        CHECK.unchanged(x, before);
        CHECK.due("the last one takes atoms", x.atom(5, false, 1, 1, 0), 1);
        CHECK.due("they go", x.clear(), 6);
        for (int i = 0; i < 6; i++) {
            CHECK.due("then there is room", x.question(i % 3), i);
        }
        CHECK.due("for six", x.question(0), FULL);
    }

    private static void questionWithoutAtoms() {
        CHECK.sentence("promise 5", "A question without atoms: its number.");
        QlRewrite x = new QlRewrite();
        x.fact(false, 0, 0, 0);
        for (int round = 0; round < 2; round++) {
            for (int q = 0; q < 6; q++) {
                CHECK.due("its number", x.question(q % 3), q);
                CHECK.due("its forms", x.forms(q), BAD);
                CHECK.due("a form", x.form(q, 0, 0), BAD);
                CHECK.due("its answers", x.run(q), BAD);
                CHECK.due("an answer", x.answer(q, 0), BAD);
                CHECK.due("why", x.why(q, 0), BAD);
            }
            for (int q = 5; q >= 0; q--) {
                CHECK.due("its first atom", x.atom(q, false, 0, 0, 0), 1);
                CHECK.due("its forms then", x.forms(q), 1);
                CHECK.due("found then", x.run(q), q % 3 == 2 ? 0 : 1);
            }
            x.clear();
        }
    }

    // Promise 6

    private static void atomOfNoQuestion() {
        CHECK.sentence("promise 6", "BAD (none such)");
        QlRewrite x = some();
        String before = Check.told(x);
        for (int[] row : new int[][] {Check.outside(0, 2), {4, 5, 6, 7}}) {
            for (int wrong : row) {
                CHECK.due("a class of question " + wrong, x.atom(wrong, false, 0, 0, 0), BAD);
                CHECK.due("a role of question " + wrong, x.atom(wrong, true, 0, 0, 1), BAD);
            }
        }
        CHECK.unchanged(x, before);
        CHECK.due("the next question has no atoms of these", x.question(0), 3);
        CHECK.due("so this is its first", x.atom(3, false, 0, 0, 0), 1);
        CHECK.due("the first question takes one", x.atom(0, false, 5, 0, 0), 2);
        x.clear();
        CHECK.due("none after clear()", x.atom(0, false, 5, 0, 0), BAD);
    }

    private static void atomsThatAreWrong() {
        CHECK.sentence("promise 6", "BAD");
        QlRewrite x = some();
        String before = Check.told(x);
        for (int wrong : Check.outside(0, 9)) {
            CHECK.due("class " + wrong, x.atom(0, false, wrong, 0, 0), BAD);
        }
        for (int[] row : new int[][] {Check.outside(0, 7), {9, 32, 39}}) {
            for (int wrong : row) {
                CHECK.due("role " + wrong, x.atom(0, true, wrong, 0, 0), BAD);
            }
        }
        for (int[] row : new int[][] {Check.outside(0, 7), {14, 15, 16}}) {
            for (int wrong : row) {
                CHECK.due("variable " + wrong, x.atom(0, false, 0, wrong, 0), BAD);
                CHECK.due("first variable " + wrong, x.atom(0, true, 0, wrong, 0), BAD);
                CHECK.due("second variable " + wrong, x.atom(0, true, 0, 0, wrong), BAD);
            }
        }
        CHECK.unchanged(x, before);
        CHECK.due("the greatest class and variable", x.atom(2, false, 9, 7, 0), 2);
        CHECK.due("the least class and variable", x.atom(2, false, 0, 0, 0), 3);
        CHECK.due("the greatest role and variables", x.atom(1, true, 7, 7, 7), 2);
        CHECK.due("the least role and variables", x.atom(1, true, 0, 0, 0), 3);
    }

    private static void secondVariableOfClass() {
        CHECK.sentence("promise 6", "(b counts for nothing with a class)");
        QlRewrite x = new QlRewrite();
        x.question(1);
        int has = 0;
        for (int b : new int[] {LEAST, -1, 8, GREATEST}) {
            has++;
            CHECK.due("b " + b, x.atom(0, false, has, 0, b), has);
            CHECK.due("the same with another b", x.atom(0, false, has, 0, 3), has);
        }
        CHECK.form(x, 0, 0, 0, -1, Check.ofClass(1, 0), Check.ofClass(2, 0), Check.ofClass(3, 0),
            Check.ofClass(4, 0));
    }

    private static void fullOfAtoms() {
        CHECK.sentence("promise 6", "FULL (1 .. 4 ATOMS)");
        QlRewrite x = some();
        CHECK.due("the second", x.atom(0, true, 1, 0, 2), 2);
        CHECK.due("the third", x.atom(0, true, 2, 2, 3), 3);
        CHECK.due("the last one that has room", x.atom(0, false, 4, 3, 0), 4);
        String before = Check.told(x);
        CHECK.due("a fifth of a class", x.atom(0, false, 5, 0, 0), FULL);
        CHECK.due("a fifth of a role", x.atom(0, true, 2, 3, 2), FULL);
        CHECK.due("the same fifth again", x.atom(0, true, 2, 3, 2), FULL);
        CHECK.due("a wrong class for a fifth", x.atom(0, false, 10, 0, 0), BAD);
        CHECK.due("a wrong role for a fifth", x.atom(0, true, 8, 0, 0), BAD);
        CHECK.due("a wrong variable for a fifth", x.atom(0, true, 2, 3, 8), BAD);
        CHECK.unchanged(x, before);
        CHECK.due("form's last atom", x.form(0, 0, 6), Check.ofRole(2, 3, 2));
        CHECK.due("another question has room", x.atom(1, false, 5, 0, 0), 2);
    }

    private static void atomThatItHas() {
        CHECK.sentence("promise 6", "(One that it has already is none more: as before.)");
        QlRewrite x = new QlRewrite();
        x.question(2);
        x.question(0);
        int[][] atoms = {{1, 3, 2, 4}, {0, 3, 2, 4}, {1, 3, 4, 2}, {0, 3, 4, 2}};
        for (int i = 0; i < 4; i++) {
            CHECK.due("one more", x.atom(0, atoms[i][0] == 1, 3, atoms[i][2], atoms[i][3]), i + 1);
            String before = Check.told(x);
            for (int k = 0; k <= i; k++) {
                CHECK.due("it has it", x.atom(0, atoms[k][0] == 1, 3, atoms[k][2], atoms[k][3]), i + 1);
            }
            CHECK.unchanged(x, before);
        }
        CHECK.due("another question does not have it", x.atom(1, true, 3, 2, 4), 1);
        // As told they are two, in the form one: 3 and 4 stand just once there.
        CHECK.due("to another variable", x.atom(1, true, 3, 2, 3), 2);
        CHECK.due("its form has one", x.form(1, 0, 0), 1);
        CHECK.due("of them one more", x.atom(1, true, 3, 2, 5), 3);
        CHECK.due("and the last", x.atom(1, true, 3, 2, 6), 4);
        CHECK.due("one too many, though its form would be as before", x.atom(1, true, 3, 2, 7), FULL);
        CHECK.due("its form still has one", x.form(1, 0, 0), 1);
    }

    // Promise 13

    private static void countsAtTheirEnds() {
        CHECK.sentence("promise 13", "(what = 0, 1, 2); BAD");
        QlRewrite x = new QlRewrite();
        for (int wrong : Check.outside(0, 2)) {
            CHECK.due("new: count(" + wrong + ")", x.count(wrong), BAD);
        }
        for (int i = 0; i < 16; i++) {
            CHECK.due("axioms", x.count(0), i);
            x.axiom(i % 4, 1, 1);
        }
        for (int i = 0; i < 60; i++) {
            CHECK.due("facts", x.count(1), i);
            x.fact(true, i % 8, i % 12, i / 12);
        }
        for (int i = 0; i < 6; i++) {
            CHECK.due("questions", x.count(2), i);
            x.question(i % 3);
        }
        CHECK.due("all axioms", x.count(0), 16);
        CHECK.due("all facts", x.count(1), 60);
        CHECK.due("all questions", x.count(2), 6);
        for (int wrong : Check.outside(0, 2)) {
            CHECK.due("full: count(" + wrong + ")", x.count(wrong), BAD);
        }
    }

    private static void countsOfRefused() {
        CHECK.sentence("promise 13", "How many axioms, facts, questions there are");
        QlRewrite x = new QlRewrite();
        x.axiom(4, 0, 0);
        x.fact(false, 10, 0, 0);
        x.forget(false, 0, 0, 0);
        x.forget(false, 0, 12, 0);
        x.question(3);
        for (int what = 0; what < 3; what++) {
            CHECK.due("all refused: count(" + what + ")", x.count(what), 0);
        }
        x.fact(false, 0, 0, 0);
        x.fact(false, 0, 0, 0);
        CHECK.due("one told twice", x.count(1), 1);
        x.fact(true, 0, 0, 0);
        CHECK.due("two", x.count(1), 2);
        x.forget(true, 0, 0, 0);
        CHECK.due("one gone", x.count(1), 1);
        x.forget(true, 0, 0, 0);
        CHECK.due("none more gone", x.count(1), 1);
        for (int i = 0; i < 18; i++) {
            x.axiom(0, 1, 0);
            x.question(1);
        }
        CHECK.due("18 axioms told", x.count(0), 16);
        CHECK.due("18 questions told", x.count(2), 6);
        x.atom(0, false, 0, 0, 0);
        x.run(0);
        x.broken();
        CHECK.due("asking changes no axioms", x.count(0), 16);
        CHECK.due("asking changes no facts", x.count(1), 1);
        CHECK.due("asking changes no questions", x.count(2), 6);
    }

    // Promise 14

    private static void clearOfNone() {
        CHECK.sentence("promise 14", "No questions: how many there were.");
        QlRewrite x = new QlRewrite();
        CHECK.due("of a new object", x.clear(), 0);
        CHECK.due("again", x.clear(), 0);
        x.question(3);
        CHECK.due("a refused one is none", x.clear(), 0);
        x.question(0);
        CHECK.due("one without atoms", x.clear(), 1);
        CHECK.due("it is gone", x.clear(), 0);
        CHECK.due("the next one is the first", x.question(0), 0);
    }

    private static void clearOfAll() {
        CHECK.sentence("promise 14", "No questions: how many there were.");
        QlRewrite x = new QlRewrite();
        x.fact(false, 0, 0, 0);
        for (int most = 6; most >= 1; most--) {
            for (int i = 0; i < 7; i++) {
                if (i < most || most == 6) {
                    x.question(1);
                    x.atom(i, false, 0, 0, 0);
                }
            }
            CHECK.due("clear() of " + most, x.clear(), most);
            CHECK.due("questions", x.count(2), 0);
            for (int q = 0; q < 6; q++) {
                CHECK.due("forms(" + q + ")", x.forms(q), BAD);
                CHECK.due("run(" + q + ")", x.run(q), BAD);
            }
        }
        CHECK.due("form(0, 0, 0)", x.form(0, 0, 0), BAD);
        CHECK.due("answer(0, 0)", x.answer(0, 0), BAD);
        CHECK.due("why(0, 0)", x.why(0, 0), BAD);
    }

    private static void clearLeavesTheRest() {
        CHECK.sentence("promise 14", "No questions: how many there were.");
        QlRewrite x = some();
        x.fact(false, 9, 2, 0);
        CHECK.due("run before", x.run(0), 3);
        CHECK.due("clear()", x.clear(), 3);
        CHECK.due("axioms", x.count(0), 5);
        CHECK.due("facts", x.count(1), 4);
        CHECK.due("broken()", x.broken(), 3);
        // Question 0 had one answer and class 0; nothing of it is in the one that takes its number.
        CHECK.due("a question with two answers", x.question(2), 0);
        CHECK.due("its forms", x.forms(0), BAD);
        CHECK.due("its first atom", x.atom(0, true, 0, 0, 1), 1);
        CHECK.due("its forms then", x.forms(0), 2);
        CHECK.form(x, 0, 0, 0, 1, Check.ofRole(0, 0, 1));
        CHECK.answers(x, 0, 16 * 3 + 4, 16 * 6 + 5);
        CHECK.due("why", x.why(0, 16 * 6 + 5), 1);
    }
}
