/** Promises 7 and 8: the forms of a question, their order and their codes. */
public final class FormsTest {
    private static final int ANY = 6;
    private static final Check CHECK = new Check();

    public static void main(String[] args) {
        ownForm();
        anyTillNothingChanges();
        leastNames();
        sortsFit();
        sortsThatDoNotFit();
        waysFit();
        orderOfComing();
        meets();
        answersMeet();
        rewrittenAfterAnswersMet();
        answersInNoAtom();
        laterAxiomsAndAtoms();
        mostOfAll();
        mostForms();
        wrongInputs();
        CHECK.end();
    }

    private static int c(int name, int variable) {
        return Check.ofClass(name, variable);
    }

    private static int r(int name, int first, int second) {
        return Check.ofRole(name, first, second);
    }

    private static void ownForm() {
        QlRewrite x = new QlRewrite();
        x.question(2);
        x.atom(0, true, 7, 1, 0);
        CHECK.due("forms", x.forms(0), 1);
        CHECK.form(x, 0, 0, 0, 1, r(7, 1, 0));
        x.question(1);
        x.atom(1, true, 7, 1, 0);
        CHECK.form(x, 1, 0, 0, -1, r(7, ANY, 0));
        x.question(0);
        x.atom(2, true, 7, 1, 0);
        CHECK.form(x, 2, 0, -1, -1, r(7, ANY, ANY));
        x.question(0);
        x.atom(3, true, 0, 6, 7);
        x.atom(3, false, 9, 7, 0);
        x.atom(3, false, 0, 6, 0);
        CHECK.form(x, 3, 0, -1, -1, c(0, 2), c(9, 3), r(0, 2, 3));
        x.question(0);
        x.atom(4, true, 0, 6, 6);
        CHECK.form(x, 4, 0, -1, -1, r(0, 2, 2));
        x.question(1);
        x.atom(5, true, 3, 1, 1);
        x.atom(5, false, 4, 0, 0);
        CHECK.form(x, 5, 0, 0, -1, c(4, 0), r(3, 2, 2));
    }

    private static void anyTillNothingChanges() {
        QlRewrite x = new QlRewrite();
        x.question(0);
        x.atom(0, true, 1, 2, 3);
        x.atom(0, true, 1, 4, 3);
        x.atom(0, true, 0, 5, 2);
        x.atom(0, true, 0, 6, 4);
        // 5 and 6 are ANY at once; nothing else stands just once, and no two are equal.
        CHECK.form(x, 0, 0, -1, -1, r(0, ANY, 2), r(0, ANY, 3), r(1, 2, 4), r(1, 3, 4));
        x.question(1);
        x.atom(1, true, 1, 2, 3);
        x.atom(1, true, 1, 4, 3);
        x.atom(1, true, 2, 3, 0);
        // 2 and 4 are ANY, then two are one; 3 is still in another.
        CHECK.form(x, 1, 0, 0, -1, r(1, ANY, 2), r(2, 2, 0));
        x.question(0);
        x.atom(2, true, 1, 2, 3);
        x.atom(2, true, 1, 4, 3);
        x.atom(2, true, 1, 5, 6);
        CHECK.form(x, 2, 0, -1, -1, r(1, ANY, ANY));
        x.question(0);
        x.atom(3, false, 1, 2, 0);
        x.atom(3, false, 1, 3, 0);
        x.atom(3, false, 2, 4, 0);
        CHECK.form(x, 3, 0, -1, -1, c(1, ANY), c(2, ANY));
    }

    private static void leastNames() {
        QlRewrite x = new QlRewrite();
        x.question(0);
        x.atom(0, true, 0, 7, 3);
        x.atom(0, true, 0, 3, 6);
        x.atom(0, true, 0, 6, 0);
        x.atom(0, true, 0, 0, 7);
        CHECK.form(x, 0, 0, -1, -1, r(0, 2, 3), r(0, 3, 4), r(0, 4, 5), r(0, 5, 2));
        x.question(1);
        x.atom(1, true, 5, 3, 2);
        x.atom(1, true, 4, 2, 0);
        x.atom(1, true, 6, 4, 3);
        x.atom(1, true, 7, 4, 4);
        CHECK.form(x, 1, 0, 0, -1, r(4, 2, 0), r(5, 3, 2), r(6, 4, 3), r(7, 4, 4));
        // The first code ties for all names of 3 and 4; the second one tells them apart.
        x.question(2);
        x.atom(2, true, 0, 0, 1);
        x.atom(2, true, 1, 3, 4);
        x.atom(2, true, 2, 4, 3);
        CHECK.form(x, 2, 0, 0, 1, r(0, 0, 1), r(1, 2, 3), r(2, 3, 2));
        x.question(0);
        x.atom(3, true, 0, 2, 5);
        x.atom(3, true, 0, 5, 5);
        CHECK.form(x, 3, 0, -1, -1, r(0, 2, 2), r(0, ANY, 2));
        x.question(0);
        x.atom(4, true, 0, 2, 5);
        x.atom(4, true, 0, 5, 5);
        x.atom(4, true, 1, 5, 2);
        // r(2, 2) and r(3, 2) come before r(2, 3) and r(3, 3).
        CHECK.form(x, 4, 0, -1, -1, r(0, 2, 2), r(0, 3, 2), r(1, 2, 3));
        x.question(0);
        x.atom(5, true, 3, 0, 1);
        x.atom(5, true, 2, 2, 3);
        x.atom(5, true, 0, 1, 0);
        x.atom(5, true, 1, 3, 2);
        CHECK.form(x, 5, 0, -1, -1, r(0, 2, 3), r(1, 4, 5), r(2, 5, 4), r(3, 3, 2));
    }

    private static void sortsFit() {
        int[] sorts = {4, 26, 27};
        for (int a : sorts) {
            int own = a == 4 ? c(4, 0) : a == 26 ? r(3, 0, ANY) : r(3, ANY, 0);
            int any = a == 4 ? c(4, ANY) : r(3, ANY, ANY);
            for (int b : new int[] {9, 34, 35}) {
                QlRewrite x = new QlRewrite();
                x.axiom(0, a, b);
                x.question(1);
                x.atom(0, b != 9, b == 9 ? 9 : 7, b == 35 ? 2 : 0, b == 35 ? 0 : 2);
                CHECK.due("sort " + a + " for " + b, x.forms(0), 2);
                CHECK.form(x, 0, 1, 0, -1, own);
                x.question(0);
                x.atom(1, b != 9, b == 9 ? 9 : 7, 4, 5);
                CHECK.due("sort " + a + " for " + b + " of ANY", x.forms(1), 2);
                CHECK.form(x, 1, 1, -1, -1, any);
                x.question(0);
                x.atom(2, b != 9, b == 9 ? 9 : 7, b == 35 ? 5 : 4, b == 35 ? 4 : 5);
                x.atom(2, false, 0, 4, 0);
                CHECK.due("sort " + a + " for " + b + " of another", x.forms(2), 2);
                int other = a == 4 ? c(4, 2) : a == 26 ? r(3, 2, ANY) : r(3, ANY, 2);
                CHECK.form(x, 2, 1, -1, -1, c(0, 2), other);
            }
        }
    }

    private static void sortsThatDoNotFit() {
        QlRewrite x = new QlRewrite();
        x.axiom(0, 0, 22);
        x.axiom(0, 1, 23);
        x.axiom(2, 2, 3);
        x.axiom(3, 2, 2);
        x.question(2);
        x.atom(0, true, 1, 0, 1);
        CHECK.due("both are answers", x.forms(0), 1);
        x.question(0);
        x.atom(1, true, 1, 3, 3);
        CHECK.due("a loop", x.forms(1), 1);
        x.question(1);
        x.atom(2, true, 1, 0, 2);
        x.atom(2, false, 9, 2, 0);
        CHECK.due("it stands elsewhere too", x.forms(2), 1);
        x.question(1);
        x.atom(3, true, 2, 0, 2);
        CHECK.due("another role", x.forms(3), 1);
        x.question(1);
        x.atom(4, false, 3, 0, 0);
        CHECK.due("forbidding is no rewriting", x.forms(4), 1);
        x.question(1);
        x.atom(5, true, 1, 2, 0);
        CHECK.due("OF alone", x.forms(5), 2);
        CHECK.form(x, 5, 1, 0, -1, c(1, 0));
    }

    private static void waysFit() {
        for (int turnedA = 0; turnedA < 2; turnedA++) {
            for (int turnedB = 0; turnedB < 2; turnedB++) {
                boolean turned = turnedA != turnedB;
                QlRewrite x = new QlRewrite();
                x.axiom(1, 10 + turnedA, 14 + turnedB);
                x.question(2);
                x.atom(0, true, 7, 0, 1);
                CHECK.due("way", x.forms(0), 2);
                CHECK.form(x, 0, 1, 0, 1, turned ? r(5, 1, 0) : r(5, 0, 1));
                x.question(1);
                x.atom(1, true, 7, 0, 3);
                CHECK.due("way to ANY", x.forms(1), 2);
                CHECK.form(x, 1, 1, 0, -1, turned ? r(5, ANY, 0) : r(5, 0, ANY));
                x.question(0);
                x.atom(2, true, 7, 3, 3);
                CHECK.due("way of a loop", x.forms(2), 2);
                CHECK.form(x, 2, 1, -1, -1, r(5, 2, 2));
                x.question(0);
                x.atom(3, false, 7, 3, 3);
                x.atom(3, true, 5, 3, 3);
                CHECK.due("no way for class 7 or for role 5", x.forms(3), 1);
            }
        }
        QlRewrite x = new QlRewrite();
        x.axiom(1, 1, 0);
        x.question(2);
        x.atom(0, true, 0, 0, 1);
        CHECK.due("a way and itself turned", x.forms(0), 2);
        CHECK.form(x, 0, 1, 0, 1, r(0, 1, 0));
    }

    private static void orderOfComing() {
        QlRewrite x = new QlRewrite();
        x.axiom(0, 6, 1);
        x.axiom(0, 5, 0);
        x.axiom(0, 4, 1);
        x.axiom(0, 3, 5);
        x.axiom(0, 5, 0);
        x.question(1);
        x.atom(0, false, 1, 0, 0);
        x.atom(0, false, 0, 0, 0);
        CHECK.due("forms", x.forms(0), 9);
        CHECK.form(x, 0, 0, 0, -1, c(0, 0), c(1, 0));
        CHECK.form(x, 0, 1, 0, -1, c(1, 0), c(5, 0));
        CHECK.form(x, 0, 2, 0, -1, c(0, 0), c(6, 0));
        CHECK.form(x, 0, 3, 0, -1, c(0, 0), c(4, 0));
        CHECK.form(x, 0, 4, 0, -1, c(5, 0), c(6, 0));
        CHECK.form(x, 0, 5, 0, -1, c(4, 0), c(5, 0));
        CHECK.form(x, 0, 6, 0, -1, c(1, 0), c(3, 0));
        CHECK.form(x, 0, 7, 0, -1, c(3, 0), c(6, 0));
        CHECK.form(x, 0, 8, 0, -1, c(3, 0), c(4, 0));
        QlRewrite y = new QlRewrite();
        y.axiom(0, 0, 3);
        y.question(1);
        y.atom(0, true, 0, 0, 2);
        y.atom(0, true, 0, 2, 3);
        y.atom(0, false, 3, 2, 0);
        // What comes by an axiom comes before what comes by meeting.
        CHECK.form(y, 0, 0, 0, -1, c(3, 2), r(0, 0, 2), r(0, 2, ANY));
        CHECK.form(y, 0, 1, 0, -1, c(0, 2), r(0, 0, 2), r(0, 2, ANY));
        CHECK.form(y, 0, 2, 0, -1, c(3, 0), r(0, 0, 0));
        CHECK.form(y, 0, 3, 0, -1, c(0, 0), r(0, 0, 0));
        CHECK.due("no more", y.forms(0), 4);
    }

    private static void meets() {
        QlRewrite x = new QlRewrite();
        x.question(1);
        x.atom(0, true, 0, 0, 2);
        x.atom(0, true, 0, 3, 4);
        x.atom(0, false, 5, 4, 0);
        // ANY is what the other one has there; 2 (told as 4) stands in a class too.
        CHECK.due("ANY meets", x.forms(0), 2);
        CHECK.form(x, 0, 0, 0, -1, c(5, 2), r(0, 0, ANY), r(0, ANY, 2));
        CHECK.form(x, 0, 1, 0, -1, c(5, 2), r(0, 0, 2));
        x.question(0);
        x.atom(1, true, 0, 2, 2);
        x.atom(1, true, 0, 5, 3);
        x.atom(1, true, 1, 3, 2);
        // r(2, 2) and r(ANY, 3): first 2, then 3 is 2 everywhere.
        CHECK.due("ANY, then variables", x.forms(1), 2);
        CHECK.form(x, 1, 0, -1, -1, r(0, 2, 2), r(0, ANY, 3), r(1, 3, 2));
        CHECK.form(x, 1, 1, -1, -1, r(0, 2, 2), r(1, 2, 2));
        x.question(0);
        x.atom(2, true, 0, 2, 3);
        x.atom(2, true, 0, 3, 2);
        // The first places make 3 be 2; the second ones are one then.
        CHECK.due("one behind the other", x.forms(2), 2);
        CHECK.form(x, 2, 0, -1, -1, r(0, 2, 3), r(0, 3, 2));
        CHECK.form(x, 2, 1, -1, -1, r(0, 2, 2));
        x.question(0);
        x.atom(3, false, 0, 2, 0);
        x.atom(3, false, 0, 3, 0);
        x.atom(3, true, 0, 2, 3);
        CHECK.due("classes meet", x.forms(3), 2);
        CHECK.form(x, 3, 1, -1, -1, c(0, 2), r(0, 2, 2));
        x.question(0);
        x.atom(4, false, 0, 2, 0);
        x.atom(4, false, 1, 3, 0);
        x.atom(4, true, 0, 2, 4);
        x.atom(4, true, 1, 3, 4);
        CHECK.due("other names do not meet", x.forms(4), 1);
        x.question(1);
        x.atom(5, true, 0, 0, 2);
        x.atom(5, true, 0, 0, 3);
        x.atom(5, false, 1, 2, 0);
        x.atom(5, false, 2, 3, 0);
        CHECK.due("the higher one is the other one", x.forms(5), 2);
        CHECK.form(x, 5, 0, 0, -1, c(1, 2), c(2, 3), r(0, 0, 2), r(0, 0, 3));
        CHECK.form(x, 5, 1, 0, -1, c(1, 2), c(2, 2), r(0, 0, 2));
    }

    private static void answersMeet() {
        QlRewrite x = new QlRewrite();
        x.question(2);
        x.atom(0, false, 3, 0, 0);
        x.atom(0, false, 3, 1, 0);
        CHECK.due("answers meet", x.forms(0), 2);
        CHECK.form(x, 0, 0, 0, 1, c(3, 0), c(3, 1));
        CHECK.form(x, 0, 1, 0, 0, c(3, 0));
        x.question(2);
        x.atom(1, true, 0, 0, 1);
        x.atom(1, true, 0, 1, 5);
        x.atom(1, false, 0, 5, 0);
        // 1 is 0, then 2 is 0.
        CHECK.due("answers and another", x.forms(1), 2);
        CHECK.form(x, 1, 0, 0, 1, c(0, 2), r(0, 0, 1), r(0, 1, 2));
        CHECK.form(x, 1, 1, 0, 0, c(0, 0), r(0, 0, 0));
        x.question(1);
        x.atom(2, false, 3, 0, 0);
        x.atom(2, false, 3, 1, 0);
        x.atom(2, true, 3, 1, 1);
        CHECK.form(x, 2, 0, 0, -1, c(3, 0), c(3, 2), r(3, 2, 2));
        CHECK.form(x, 2, 1, 0, -1, c(3, 0), r(3, 0, 0));
    }

    /** Both answers stay one in all that comes of such a form. */
    private static void rewrittenAfterAnswersMet() {
        QlRewrite x = new QlRewrite();
        x.question(2);
        x.atom(0, true, 0, 0, 2);
        x.atom(0, true, 0, 1, 2);
        x.axiom(0, 5, 20);
        x.axiom(0, 6, 5);
        CHECK.due("forms", x.forms(0), 4);
        CHECK.form(x, 0, 0, 0, 1, r(0, 0, 2), r(0, 1, 2));
        CHECK.form(x, 0, 1, 0, 0, r(0, 0, ANY));
        CHECK.form(x, 0, 2, 0, 0, c(5, 0));
        CHECK.form(x, 0, 3, 0, 0, c(6, 0));
    }

    private static void answersInNoAtom() {
        QlRewrite x = new QlRewrite();
        x.axiom(0, 1, 0);
        x.question(2);
        x.atom(0, false, 0, 0, 0);
        CHECK.due("one in no atom", x.forms(0), 2);
        CHECK.form(x, 0, 0, 0, 1, c(0, 0));
        CHECK.form(x, 0, 1, 0, 1, c(1, 0));
        x.question(2);
        x.atom(1, false, 0, 1, 0);
        CHECK.form(x, 1, 0, 0, 1, c(0, 1));
        x.question(1);
        x.atom(2, false, 0, 3, 0);
        CHECK.form(x, 2, 0, 0, -1, c(0, ANY));
    }

    private static void laterAxiomsAndAtoms() {
        QlRewrite x = new QlRewrite();
        x.question(1);
        x.atom(0, false, 0, 0, 0);
        CHECK.due("alone", x.forms(0), 1);
        x.axiom(0, 1, 0);
        CHECK.due("with an axiom", x.forms(0), 2);
        x.fact(false, 0, 0, 0);
        CHECK.due("with a fact", x.forms(0), 2);
        x.atom(0, false, 2, 0, 0);
        CHECK.due("with an atom", x.forms(0), 2);
        CHECK.form(x, 0, 1, 0, -1, c(1, 0), c(2, 0));
        x.question(1);
        x.atom(1, false, 2, 0, 0);
        CHECK.due("another", x.forms(1), 1);
        CHECK.due("the first one", x.forms(0), 2);
        x.axiom(0, 3, 2);
        CHECK.due("another with both", x.forms(1), 2);
        CHECK.due("the first one with both", x.forms(0), 4);
    }

    /** Three atoms of which 3, 5 and 6 sorts can stand: 90 forms. */
    private static QlRewrite ninety() {
        QlRewrite x = new QlRewrite();
        int[] sorts = {0, 1, 2, -1, 3, 4, 5, 6, 7, -1, 8, 9, 20, 22, 24, 26};
        for (int i = 1; i < sorts.length; i++) {
            if (sorts[i] >= 0 && sorts[i - 1] >= 0) {
                x.axiom(0, sorts[i], sorts[i - 1]);
            }
        }
        x.question(1);
        x.atom(0, false, 0, 0, 0);
        x.atom(0, false, 3, 0, 0);
        x.atom(0, false, 8, 0, 0);
        return x;
    }

    /** Four atoms, sixteen axioms, six questions: all that there can be at once. */
    private static void mostOfAll() {
        QlRewrite x = new QlRewrite();
        for (int i = 0; i < 6; i++) {
            x.question(2);
            x.atom(i, true, 7, 0, 2);
            x.atom(i, true, 6, 2, 3);
            x.atom(i, true, 5, 3, 1);
            x.atom(i, false, 9, 3, 0);
        }
        for (int i = 0; i < 15; i++) {
            x.axiom(0, 0, 1);
        }
        for (int i = 0; i < 6; i++) {
            CHECK.due("before", x.forms(i), 1);
        }
        x.axiom(0, 8, 9);
        for (int i = 0; i < 6; i++) {
            CHECK.due("forms", x.forms(i), 2);
            CHECK.form(x, i, 0, 0, 1, c(9, 2), r(5, 2, 1), r(6, 3, 2), r(7, 0, 3));
            CHECK.form(x, i, 1, 0, 1, c(8, 2), r(5, 2, 1), r(6, 3, 2), r(7, 0, 3));
            CHECK.due("run", x.run(i), 0);
        }
        CHECK.due("broken", x.broken(), QlRewrite.BAD);
    }

    private static void mostForms() {
        QlRewrite x = ninety();
        CHECK.due("90 forms", x.forms(0), 90);
        CHECK.form(x, 0, 0, 0, -1, c(0, 0), c(3, 0), c(8, 0));
        CHECK.form(x, 0, 89, 0, -1, c(2, 0), c(7, 0), r(3, 0, ANY));
        CHECK.due("no form 90", x.form(0, 90, 0), QlRewrite.BAD);
        x.axiom(0, 28, 26);
        CHECK.due("too many", x.forms(0), QlRewrite.LARGE);
        large(x, 0);
        x.question(1);
        x.atom(1, false, 0, 0, 0);
        CHECK.due("another is not too large", x.forms(1), 3);
        x.clear();
        x.question(1);
        x.atom(0, false, 0, 0, 0);
        CHECK.due("nor a later one", x.forms(0), 3);
        // 13 sorts that are all the same: 13 forms of one atom and 78 of two are 91.
        QlRewrite y = new QlRewrite();
        for (int i = 0; i < 13; i++) {
            y.axiom(0, sort((i + 1) % 13), sort(i));
        }
        y.question(1);
        y.atom(0, false, 0, 0, 0);
        CHECK.due("13 forms", y.forms(0), 13);
        y.atom(0, false, 1, 0, 0);
        CHECK.due("91 would be too many", y.forms(0), QlRewrite.LARGE);
        large(y, 0);
    }

    private static int sort(int i) {
        return i < 10 ? i : 2 * i;
    }

    private static void large(QlRewrite x, int question) {
        for (int what = 0; what <= 6; what++) {
            CHECK.due("large: form(0, " + what + ")", x.form(question, 0, what), QlRewrite.LARGE);
        }
        CHECK.due("large: run()", x.run(question), QlRewrite.LARGE);
        CHECK.due("large: answer()", x.answer(question, 0), QlRewrite.LARGE);
        CHECK.due("large: why()", x.why(question, 0), QlRewrite.LARGE);
        CHECK.due("large: of no question", x.form(5, 0, 0), QlRewrite.BAD);
    }

    private static void wrongInputs() {
        QlRewrite x = new QlRewrite();
        x.question(2);
        x.question(2);
        x.atom(0, true, 0, 0, 1);
        for (int far : new int[] {Integer.MIN_VALUE, Integer.MIN_VALUE + 2, -1, 7, Integer.MAX_VALUE}) {
            CHECK.due("forms far", x.forms(far), QlRewrite.BAD);
            CHECK.due("form far question", x.form(far, 0, 0), QlRewrite.BAD);
            CHECK.due("form far i", x.form(0, far, 0), QlRewrite.BAD);
            CHECK.due("form far what", x.form(0, 0, far), QlRewrite.BAD);
        }
        CHECK.due("no such form", x.form(0, 1, 0), QlRewrite.BAD);
        CHECK.due("no atoms", x.forms(1), QlRewrite.BAD);
        CHECK.due("no atoms, form", x.form(1, 0, 0), QlRewrite.BAD);
        CHECK.due("no atoms, form's answer", x.form(1, 0, 1), QlRewrite.BAD);
        CHECK.due("none such", x.forms(2), QlRewrite.BAD);
        CHECK.due("none such, form", x.form(2, 0, 0), QlRewrite.BAD);
    }
}
