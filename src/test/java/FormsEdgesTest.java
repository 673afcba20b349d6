import java.util.ArrayList;
import java.util.List;

/**
 * Promises 7 and 8, and what "Terms" says of forms: a test for each sentence that names a boundary
 * case. A remark at the head of a test says which promise and which sentence it is.
 */
public final class FormsEdgesTest {
    private static final int BAD = QlRewrite.BAD;
    private static final int LARGE = QlRewrite.LARGE;
    private static final int ANY = 6;
    private static final Check CHECK = new Check();

    public static void main(String[] args) {
        formsOfNone();
        formsWithoutAtoms();
        formsAtLeast();
        formsAtMost();
        formsTooMany();
        tooManyByMeeting();
        tooLargeChangesNothing();
        noSuchForm();
        noSuchWhat();
        formOfNone();
        formOfTooLarge();
        answersThatThereAre();
        answersThatAreTheSame();
        codesAtTheirEnds();
        equalAtoms();
        standsJustOnce();
        tillNothingChanges();
        mostNames();
        leastPlaceByPlace();
        allWaysToName();
        noFormsYet();
        fitsWithAnyAlone();
        turnedWhenJustOne();
        meetingOfAny();
        meetingBehindOthers();
        meetingInOrder();
        CHECK.end();
    }

    private static int c(int name, int variable) {
        return Check.ofClass(name, variable);
    }

    private static int r(int name, int first, int second) {
        return Check.ofRole(name, first, second);
    }

    /** The classes 0 .. 9, then HAS 0, HAS 1, .. */
    private static int sort(int i) {
        return i < 10 ? i : 2 * i;
    }

    /** All orders of 0 .. 3. */
    private static List<int[]> orders() {
        List<int[]> all = new ArrayList<>();
        for (int i = 0; i < 256; i++) {
            int[] order = {i >> 6, i >> 4 & 3, i >> 2 & 3, i & 3};
            if ((1 << order[0] | 1 << order[1] | 1 << order[2] | 1 << order[3]) == 15) {
                all.add(order);
            }
        }
        CHECK.due("orders of four", all.size(), 24);
        return all;
    }

    /** Each sort of first .. last but the first one is of the one before it. */
    private static void chain(QlRewrite x, int first, int last) {
        for (int i = first + 1; i <= last; i++) {
            x.axiom(0, sort(i), sort(i - 1));
        }
    }

    /** A question with the atoms class 0, 3 and 8 of its answer; 3, 5 and 6 sorts stand for these. */
    private static QlRewrite ninety() {
        QlRewrite x = new QlRewrite();
        chain(x, 0, 2);
        chain(x, 3, 7);
        chain(x, 8, 13);
        x.question(1);
        x.atom(0, false, 0, 0, 0);
        x.atom(0, false, 3, 0, 0);
        x.atom(0, false, 8, 0, 0);
        return x;
    }

    /** Of 13 sorts each is all the others: a question for two of them would have 91 forms. */
    private static QlRewrite ninetyOne() {
        QlRewrite x = new QlRewrite();
        for (int i = 0; i < 13; i++) {
            x.axiom(0, sort((i + 1) % 13), sort(i));
        }
        x.question(1);
        x.atom(0, false, 0, 0, 0);
        x.atom(0, false, 1, 0, 0);
        return x;
    }

    // Promise 7

    private static void formsOfNone() {
        CHECK.sentence("promise 7", "BAD (none such");
        QlRewrite x = new QlRewrite();
        CHECK.due("new: forms(0)", x.forms(0), BAD);
        CHECK.due("new: forms(-1)", x.forms(-1), BAD);
        for (int q = 0; q < 6; q++) {
            CHECK.due("next: forms(" + q + ")", x.forms(q), BAD);
            x.question(q % 3);
            x.atom(q, true, 0, 0, 1);
            CHECK.due("forms(" + q + ")", x.forms(q), 1);
        }
        for (int wrong : Check.outside(0, 5)) {
            CHECK.due("forms(" + wrong + ")", x.forms(wrong), BAD);
        }
        x.clear();
        CHECK.due("cleared: forms(0)", x.forms(0), BAD);
        CHECK.due("cleared: forms(5)", x.forms(5), BAD);
    }

    private static void formsWithoutAtoms() {
        CHECK.sentence("promise 7", "BAD (.. or without atoms)");
        for (int answers = 0; answers <= 2; answers++) {
            QlRewrite x = new QlRewrite();
            x.question(answers);
            CHECK.due("no atom yet", x.forms(0), BAD);
            CHECK.due("a refused atom", x.atom(0, false, 10, 0, 0), BAD);
            CHECK.due("still no atom", x.forms(0), BAD);
            x.axiom(0, 1, 0);
            CHECK.due("an axiom is no atom", x.forms(0), BAD);
            x.atom(0, false, 9, 0, 0);
            CHECK.due("one atom", x.forms(0), 1);
        }
    }

    private static void formsAtLeast() {
        CHECK.sentence("Terms", "THE FORMS of a question begin with its own.");
        QlRewrite x = new QlRewrite();
        x.question(0);
        x.atom(0, false, 0, 0, 0);
        CHECK.due("no axioms: one form", x.forms(0), 1);
        CHECK.form(x, 0, 0, -1, -1, c(0, ANY));
        for (int i = 0; i < 16; i++) {
            x.axiom(i % 2 == 0 ? 2 : 3, 0, 0);
        }
        CHECK.due("16 that only forbid: one form", x.forms(0), 1);
    }

    private static void formsAtMost() {
        CHECK.sentence("Terms", "At most 90 forms come");
        QlRewrite x = ninety();
        CHECK.due("3 times 5 times 6", x.forms(0), 90);
        CHECK.form(x, 0, 0, 0, -1, c(0, 0), c(3, 0), c(8, 0));
        CHECK.form(x, 0, 89, 0, -1, c(2, 0), c(7, 0), r(3, 0, ANY));
        CHECK.due("no form 90", x.form(0, 90, 0), BAD);
        x.fact(false, 2, 11, 0);
        x.fact(false, 7, 11, 0);
        x.fact(true, 3, 11, 0);
        CHECK.due("the last form finds", x.run(0), 1);
        CHECK.due("why", x.why(0, 16 * 11), 89);
        // Forms that are forms already do not count once more.
        x.axiom(0, 8, 9);
        x.axiom(0, 0, 2);
        CHECK.due("back again", x.forms(0), 90);
    }

    private static void formsTooMany() {
        CHECK.sentence("Terms", "when there would be more, the question is TOO LARGE");
        QlRewrite x = ninetyOne();
        CHECK.due("13 of one atom and 78 of two", x.forms(0), LARGE);
        CHECK.due("asked again", x.forms(0), LARGE);
        x = ninety();
        x.axiom(0, 28, 26);
        CHECK.due("3 times 5 times 7", x.forms(0), LARGE);
        x = ninety();
        CHECK.due("90", x.forms(0), 90);
        x.axiom(0, 28, 2);
        CHECK.due("a fourth for the first atom", x.forms(0), LARGE);
        x = ninety();
        CHECK.due("one atom more", x.atom(0, true, 7, 0, 0), 4);
        CHECK.due("still 90", x.forms(0), 90);
        x.axiom(1, 12, 14);
        CHECK.due("twice as many", x.forms(0), LARGE);
    }

    /**
     * Of class 0 for the first answer 3 sorts stand, of class 3 for the second one as many, and the
     * last of them is the same; of class 5 for the first one these many: each has one form more.
     */
    private static QlRewrite meeting(int many) {
        QlRewrite x = new QlRewrite();
        chain(x, 0, 2);
        x.axiom(0, 4, 3);
        x.axiom(0, 2, 4);
        chain(x, 5, 4 + many);
        x.question(2);
        x.atom(0, false, 0, 0, 0);
        x.atom(0, false, 5, 0, 0);
        x.atom(0, false, 3, 1, 0);
        return x;
    }

    private static void tooManyByMeeting() {
        CHECK.sentence("Terms", "when there would be more, the question is TOO LARGE");
        CHECK.due("81 by axioms, 9 by meeting", meeting(9).forms(0), 90);
        CHECK.due("90 by axioms, 10 by meeting", meeting(10).forms(0), LARGE);
    }

    private static void tooLargeChangesNothing() {
        CHECK.sentence("promise 7", "LARGE");
        QlRewrite x = ninetyOne();
        x.fact(false, 5, 5, 0);
        CHECK.due("too large", x.forms(0), LARGE);
        CHECK.due("axioms", x.count(0), 13);
        CHECK.due("facts", x.count(1), 1);
        CHECK.due("questions", x.count(2), 1);
        x.question(1);
        CHECK.due("without atoms beside it", x.forms(1), BAD);
        x.atom(1, false, 0, 0, 0);
        CHECK.due("another is not too large", x.forms(1), 13);
        CHECK.due("and has answers", x.run(1), 1);
        CHECK.due("the first one still is", x.forms(0), LARGE);
        CHECK.due("none such beside it", x.forms(2), BAD);
        CHECK.due("an atom that it has", x.atom(0, false, 0, 0, 0), 2);
        CHECK.due("an atom more", x.atom(0, true, 7, 0, 0), 3);
        CHECK.due("too large with it", x.forms(0), LARGE);
        CHECK.due("clear()", x.clear(), 2);
        x.question(1);
        CHECK.due("a new one in its place, without atoms", x.forms(0), BAD);
        x.atom(0, false, 0, 0, 0);
        CHECK.due("a new one in its place", x.forms(0), 13);
        CHECK.due("its answers", x.run(0), 1);
    }

    // Promise 8

    private static void noSuchForm() {
        CHECK.sentence("promise 8", "Of form i: .. BAD");
        QlRewrite x = new QlRewrite();
        x.question(2);
        x.atom(0, true, 0, 0, 1);
        for (int i : Check.outside(0, 0)) {
            for (int what = 0; what <= 3; what++) {
                CHECK.due("of one: form(0, " + i + ", " + what + ")", x.form(0, i, what), BAD);
            }
        }
        x.axiom(1, 2, 0);
        CHECK.due("a second one", x.form(0, 1, 3), r(1, 0, 1));
        for (int i : Check.outside(0, 1)) {
            for (int what = 0; what <= 3; what++) {
                CHECK.due("of two: form(0, " + i + ", " + what + ")", x.form(0, i, what), BAD);
            }
        }
        CHECK.form(x, 0, 0, 0, 1, r(0, 0, 1));
        // A question that had more forms before has no more of them now.
        x.clear();
        x.question(2);
        x.atom(0, true, 1, 0, 1);
        CHECK.due("a later question's first", x.form(0, 0, 3), r(1, 0, 1));
        CHECK.due("a later question's second", x.form(0, 1, 0), BAD);
    }

    private static void noSuchWhat() {
        CHECK.sentence("promise 8", "(what = 0), (1, 2), (3 .. 6). BAD");
        QlRewrite x = new QlRewrite();
        x.question(2);
        x.atom(0, false, 0, 0, 0);
        x.atom(0, false, 1, 0, 0);
        x.atom(0, false, 2, 1, 0);
        for (int round = 3; round <= 4; round++) {
            CHECK.due("how many atoms", x.form(0, 0, 0), round);
            CHECK.due("the first answer", x.form(0, 0, 1), 0);
            CHECK.due("the second answer", x.form(0, 0, 2), 1);
            CHECK.due("the first atom", x.form(0, 0, 3), c(0, 0));
            CHECK.due("the third atom", x.form(0, 0, 5), c(2, 1));
            CHECK.due("the fourth atom", x.form(0, 0, 6), round == 4 ? c(3, 1) : BAD);
            for (int what : Check.outside(0, 6)) {
                CHECK.due("form(0, 0, " + what + ")", x.form(0, 0, what), BAD);
            }
            // what - 3 of these wraps round to the greatest numbers.
            for (int what = Integer.MIN_VALUE; what <= Integer.MIN_VALUE + 6; what++) {
                CHECK.due("form(0, 0, " + what + ")", x.form(0, 0, what), BAD);
            }
            x.atom(0, false, 3, 1, 0);
        }
        QlRewrite y = new QlRewrite();
        y.question(0);
        y.atom(0, true, 7, 0, 0);
        CHECK.form(y, 0, 0, -1, -1, r(7, 2, 2));
    }

    private static void formOfNone() {
        CHECK.sentence("promise 8", "BAD (as forms(): none such, or without atoms)");
        QlRewrite x = new QlRewrite();
        for (int what = 0; what <= 6; what++) {
            CHECK.due("new: form(0, 0, " + what + ")", x.form(0, 0, what), BAD);
        }
        x.question(2);
        for (int what = 0; what <= 6; what++) {
            CHECK.due("without atoms: form(0, 0, " + what + ")", x.form(0, 0, what), BAD);
        }
        x.atom(0, true, 0, 0, 1);
        for (int wrong : Check.outside(0, 0)) {
            for (int what = 0; what <= 3; what++) {
                CHECK.due("form(" + wrong + ", 0, " + what + ")", x.form(wrong, 0, what), BAD);
            }
        }
        x.clear();
        for (int what = 0; what <= 6; what++) {
            CHECK.due("cleared: form(0, 0, " + what + ")", x.form(0, 0, what), BAD);
        }
    }

    private static void formOfTooLarge() {
        CHECK.sentence("promise 8", "LARGE");
        QlRewrite x = ninetyOne();
        for (int i = 0; i <= 89; i += 89) {
            for (int what = 0; what <= 4; what++) {
                CHECK.due("form(0, " + i + ", " + what + ")", x.form(0, i, what), LARGE);
            }
        }
        CHECK.due("of no question", x.form(1, 0, 0), BAD);
        x.question(0);
        CHECK.due("of one without atoms", x.form(1, 0, 0), BAD);
        x.atom(1, false, 9, 4, 0);
        CHECK.due("of one that is not too large", x.form(1, 0, 3), c(9, ANY));
        CHECK.due("of the first one still", x.form(0, 0, 3), LARGE);
    }

    private static void answersThatThereAre() {
        CHECK.sentence("promise 8", "its first answer's and second answer's variable (1, 2; -1 when there are none)");
        QlRewrite x = new QlRewrite();
        for (int answers = 0; answers <= 2; answers++) {
            x.question(answers);
            x.atom(answers, true, 3, 0, 1);
        }
        // Variables 0 and 1 are answers only when there are such.
        CHECK.form(x, 0, 0, -1, -1, r(3, ANY, ANY));
        CHECK.form(x, 1, 0, 0, -1, r(3, 0, ANY));
        CHECK.form(x, 2, 0, 0, 1, r(3, 0, 1));
        x.question(2);
        x.atom(3, true, 3, 6, 7);
        CHECK.form(x, 3, 0, 0, 1, r(3, ANY, ANY));
        x.question(1);
        x.atom(4, true, 3, 1, 1);
        CHECK.form(x, 4, 0, 0, -1, r(3, 2, 2));
        x.question(0);
        x.atom(5, true, 3, 0, 1);
        x.atom(5, true, 4, 0, 1);
        CHECK.form(x, 5, 0, -1, -1, r(3, 2, 3), r(4, 2, 3));
    }

    private static void answersThatAreTheSame() {
        CHECK.sentence("Terms", "The first answer is named 0, the second one 1 (0, when they are the same).");
        QlRewrite x = new QlRewrite();
        x.question(2);
        x.atom(0, true, 3, 0, 1);
        x.atom(0, true, 3, 1, 0);
        CHECK.due("forms", x.forms(0), 2);
        CHECK.form(x, 0, 0, 0, 1, r(3, 0, 1), r(3, 1, 0));
        CHECK.form(x, 0, 1, 0, 0, r(3, 0, 0));
        // The same atom without the second answer is another form.
        x.question(2);
        x.atom(1, true, 3, 0, 0);
        CHECK.due("a loop of the first one", x.forms(1), 1);
        CHECK.form(x, 1, 0, 0, 1, r(3, 0, 0));
        x.question(1);
        x.atom(2, true, 3, 0, 1);
        x.atom(2, true, 3, 1, 0);
        CHECK.due("with one answer", x.forms(2), 2);
        CHECK.form(x, 2, 1, 0, -1, r(3, 0, 0));
    }

    // Terms: forms

    private static void codesAtTheirEnds() {
        CHECK.sentence("Terms", "A CODE of an atom: 64 times .., 8 times .. (7 for a class) more");
        QlRewrite x = new QlRewrite();
        x.question(2);
        x.atom(0, false, 0, 0, 5);
        x.atom(0, false, 9, 7, 5);
        x.atom(0, true, 0, 0, 0);
        x.atom(0, true, 7, 6, 7);
        CHECK.due("class 9 of 7 and role 7 to 7", x.form(0, 0, 4), 64 * 9 + 8 * 2 + 7);
        CHECK.form(x, 0, 0, 0, 1, 7, 599, 2048, 64 * 39 + 8 * 6 + 2);
        x.question(1);
        x.atom(1, false, 9, 7, 5);
        x.atom(1, true, 7, 7, 6);
        x.atom(1, true, 7, 5, 4);
        x.atom(1, true, 0, 1, 0);
        CHECK.form(x, 1, 0, 0, -1, 599, 2048 + 48, 64 * 39 + 8 * 2 + 6, 64 * 39 + 8 * 6 + 6);
    }

    private static void equalAtoms() {
        CHECK.sentence("Terms", "Of equal atoms one is left");
        QlRewrite x = new QlRewrite();
        x.question(1);
        for (int v = 4; v <= 7; v++) {
            x.atom(0, true, 0, 0, v);
        }
        CHECK.form(x, 0, 0, 0, -1, r(0, 0, ANY));
        x.question(0);
        for (int v = 0; v <= 3; v++) {
            x.atom(1, false, 0, v, 0);
        }
        CHECK.form(x, 1, 0, -1, -1, c(0, ANY));
        // The answers are told apart, and a variable that stands elsewhere is no ANY.
        x.question(2);
        x.atom(2, false, 0, 0, 0);
        x.atom(2, false, 0, 1, 0);
        x.atom(2, false, 0, 2, 0);
        x.atom(2, true, 0, 2, 2);
        CHECK.form(x, 2, 0, 0, 1, c(0, 0), c(0, 1), c(0, 2), r(0, 2, 2));
        x.axiom(0, 5, 4);
        x.question(1);
        x.atom(3, false, 4, 0, 0);
        x.atom(3, false, 5, 0, 0);
        CHECK.due("forms", x.forms(3), 2);
        CHECK.form(x, 3, 1, 0, -1, c(5, 0));
        // Whichever two of four are equal, the other two stay.
        int[][] told = {{0, 4}, {0, 5}, {1, 0}, {7, 1}};
        for (int[] order : orders()) {
            QlRewrite y = new QlRewrite();
            y.question(2);
            for (int i : order) {
                y.atom(0, true, 0, told[i][0], told[i][1]);
            }
            CHECK.form(y, 0, 0, 0, 1, r(0, 0, ANY), r(0, 1, 0), r(0, ANY, 1));
        }
    }

    private static void standsJustOnce() {
        CHECK.sentence("Terms", "what stands just once in the atoms, and is no answer, is ANY (6)");
        QlRewrite x = new QlRewrite();
        x.question(0);
        x.atom(0, true, 0, 5, 5);
        CHECK.form(x, 0, 0, -1, -1, r(0, 2, 2));
        x.question(0);
        x.atom(1, true, 0, 5, 4);
        x.atom(1, true, 0, 3, 5);
        CHECK.form(x, 1, 0, -1, -1, r(0, 2, ANY), r(0, ANY, 2));
        x.question(1);
        x.atom(2, true, 0, 1, 0);
        x.atom(2, false, 9, 1, 0);
        CHECK.form(x, 2, 0, 0, -1, c(9, 2), r(0, 2, 0));
        x.question(1);
        x.atom(3, true, 0, 1, 0);
        x.atom(3, false, 9, 2, 0);
        CHECK.form(x, 3, 0, 0, -1, c(9, ANY), r(0, ANY, 0));
        x.question(2);
        x.atom(4, false, 0, 0, 0);
        x.atom(4, false, 0, 1, 0);
        CHECK.form(x, 4, 0, 0, 1, c(0, 0), c(0, 1));
        // Variables told as 6 and 7 are neither ANY nor no variable.
        x.question(0);
        x.atom(5, true, 0, 6, 7);
        x.atom(5, true, 1, 7, 6);
        CHECK.form(x, 5, 0, -1, -1, r(0, 2, 3), r(1, 3, 2));
    }

    private static void tillNothingChanges() {
        CHECK.sentence("Terms", "till nothing changes by this");
        QlRewrite x = new QlRewrite();
        x.question(0);
        x.atom(0, true, 0, 2, 3);
        x.atom(0, true, 0, 4, 3);
        // 2 and 4 are ANY, then both are one, then 3 stands just once.
        CHECK.form(x, 0, 0, -1, -1, r(0, ANY, ANY));
        x.question(0);
        x.atom(1, true, 0, 2, 3);
        x.atom(1, true, 0, 4, 3);
        x.atom(1, true, 0, 5, 6);
        // .. and then this is the third one, too.
        CHECK.form(x, 1, 0, -1, -1, r(0, ANY, ANY));
        x.question(1);
        x.atom(2, true, 0, 0, 2);
        x.atom(2, true, 1, 3, 2);
        x.atom(2, true, 1, 4, 2);
        CHECK.form(x, 2, 0, 0, -1, r(0, 0, 2), r(1, ANY, 2));
        x.axiom(1, 2, 0);
        x.question(1);
        x.atom(3, true, 0, 0, 2);
        x.atom(3, true, 1, 0, 2);
        // Both are the same by the axiom; then 2 stands just once.
        CHECK.due("forms", x.forms(3), 2);
        CHECK.form(x, 3, 0, 0, -1, r(0, 0, 2), r(1, 0, 2));
        CHECK.form(x, 3, 1, 0, -1, r(1, 0, ANY));
    }

    private static void mostNames() {
        CHECK.sentence("Terms", "The others that are no answers are named 2, 3, ..");
        QlRewrite x = new QlRewrite();
        x.question(0);
        x.atom(0, true, 7, 0, 1);
        x.atom(0, true, 6, 1, 6);
        x.atom(0, true, 5, 6, 7);
        x.atom(0, true, 4, 7, 0);
        CHECK.form(x, 0, 0, -1, -1, r(4, 2, 3), r(5, 4, 2), r(6, 5, 4), r(7, 3, 5));
        x.question(2);
        x.atom(1, true, 0, 0, 7);
        x.atom(1, true, 0, 7, 6);
        x.atom(1, true, 0, 6, 5);
        x.atom(1, true, 0, 5, 1);
        CHECK.form(x, 1, 0, 0, 1, r(0, 0, 2), r(0, 2, 3), r(0, 3, 4), r(0, 4, 1));
        x.question(0);
        x.atom(2, true, 0, 7, 7);
        x.atom(2, true, 1, 6, 6);
        x.atom(2, true, 2, 5, 5);
        x.atom(2, true, 3, 4, 4);
        CHECK.form(x, 2, 0, -1, -1, r(0, 2, 2), r(1, 3, 3), r(2, 4, 4), r(3, 5, 5));
    }

    private static void leastPlaceByPlace() {
        CHECK.sentence("Terms", "is the least one that can be (place by place; all ways to name them are looked at)");
        QlRewrite x = new QlRewrite();
        x.question(0);
        x.atom(0, true, 0, 4, 5);
        x.atom(0, true, 0, 4, 6);
        x.atom(0, true, 1, 6, 5);
        // 4 is 2; r0(2, 3) and r0(2, 4) in any case, and r1(3, 4) is less than r1(4, 3).
        CHECK.form(x, 0, 0, -1, -1, r(0, 2, 3), r(0, 2, 4), r(1, 3, 4));
        x.question(0);
        x.atom(1, true, 0, 5, 4);
        x.atom(1, true, 0, 6, 4);
        x.atom(1, true, 1, 5, 6);
        // With 4 as 3: r0(2, 3) comes before r0(3, 2), which 4 as 2 would give.
        CHECK.form(x, 1, 0, -1, -1, r(0, 2, 3), r(0, 4, 3), r(1, 2, 4));
        x.question(0);
        x.atom(2, false, 0, 5, 0);
        x.atom(2, true, 0, 4, 5);
        x.atom(2, true, 1, 4, 4);
        CHECK.form(x, 2, 0, -1, -1, c(0, 2), r(0, 3, 2), r(1, 3, 3));
        x.question(0);
        x.atom(3, true, 0, 4, 4);
        x.atom(3, true, 0, 5, 4);
        x.atom(3, true, 0, 4, 5);
        CHECK.form(x, 3, 0, -1, -1, r(0, 2, 2), r(0, 2, 3), r(0, 3, 2));
    }

    /** Each variable has an atom of its own, so that each order of telling needs another naming. */
    private static void allWaysToName() {
        CHECK.sentence("Terms", "all ways to name them are looked at");
        for (int[] order : orders()) {
            QlRewrite x = new QlRewrite();
            x.question(0);
            x.question(1);
            x.question(2);
            for (int i : order) {
                x.atom(0, true, i, 7 - i, 7 - i);
                x.atom(1, true, i, i == 3 ? 0 : 7 - i, i == 3 ? 0 : 7 - i);
                x.atom(2, true, i, i >= 2 ? i - 2 : 7 - i, i >= 2 ? i - 2 : 7 - i);
            }
            CHECK.form(x, 0, 0, -1, -1, r(0, 2, 2), r(1, 3, 3), r(2, 4, 4), r(3, 5, 5));
            CHECK.form(x, 1, 0, 0, -1, r(0, 2, 2), r(1, 3, 3), r(2, 4, 4), r(3, 0, 0));
            CHECK.form(x, 2, 0, 0, 1, r(0, 2, 2), r(1, 3, 3), r(2, 0, 0), r(3, 1, 1));
        }
    }

    private static void noFormsYet() {
        CHECK.sentence("Terms", "these come (if they are no forms yet)");
        QlRewrite x = new QlRewrite();
        x.axiom(0, 0, 0);
        x.axiom(0, 20, 20);
        x.axiom(1, 0, 0);
        x.axiom(1, 1, 1);
        x.question(1);
        x.atom(0, false, 0, 0, 0);
        x.atom(0, true, 0, 0, 5);
        CHECK.due("all of a sort are of it", x.forms(0), 1);
        x.axiom(0, 1, 0);
        x.axiom(0, 0, 1);
        x.axiom(0, 1, 0);
        CHECK.due("there and back, and once more", x.forms(0), 2);
        CHECK.form(x, 0, 1, 0, -1, c(1, 0), r(0, 0, ANY));
        x.axiom(1, 1, 0);
        x.question(0);
        x.atom(1, true, 0, 4, 5);
        CHECK.due("turned round it is the same", x.forms(1), 1);
        x.question(2);
        x.atom(2, true, 0, 0, 1);
        CHECK.due("with answers it is another", x.forms(2), 2);
    }

    private static void fitsWithAnyAlone() {
        CHECK.sentence("Terms", "if b is HAS r, an atom of r from x to ANY; if OF r, one from ANY to x");
        for (int b = 34; b <= 35; b++) {
            QlRewrite x = new QlRewrite();
            x.axiom(0, 9, b);
            x.question(1);
            x.atom(0, true, 7, 0, 2);
            CHECK.due("to ANY", x.forms(0), b == 34 ? 2 : 1);
            x.question(1);
            x.atom(1, true, 7, 2, 0);
            CHECK.due("from ANY", x.forms(1), b == 35 ? 2 : 1);
            x.question(0);
            x.atom(2, true, 7, 3, 2);
            CHECK.due("from ANY to ANY", x.forms(2), 2);
            CHECK.form(x, 2, 1, -1, -1, c(9, ANY));
            x.question(2);
            x.atom(3, true, 7, 0, 1);
            CHECK.due("between answers", x.forms(3), 1);
            x.question(0);
            x.atom(4, true, 7, 3, 3);
            CHECK.due("to itself", x.forms(4), 1);
            x.question(1);
            x.atom(5, true, 6, 0, 2);
            x.atom(5, true, 5, 3, 0);
            x.atom(5, false, 7, 0, 0);
            CHECK.due("of another role, or of a class", x.forms(5), 1);
        }
    }

    private static void turnedWhenJustOne() {
        CHECK.sentence("Terms", "WAY a of x and y, turned when just one of a, b is");
        for (int a = 0; a <= 1; a++) {
            for (int b = 14; b <= 15; b++) {
                QlRewrite x = new QlRewrite();
                x.axiom(1, a, b);
                x.question(2);
                x.atom(0, true, 7, 0, 1);
                boolean turned = (a + b) % 2 == 1;
                CHECK.due("forms", x.forms(0), 2);
                CHECK.form(x, 0, 1, 0, 1, turned ? r(0, 1, 0) : r(0, 0, 1));
                x.question(2);
                x.atom(1, true, 0, 0, 1);
                x.atom(1, false, 7, 0, 0);
                CHECK.due("not the other way, and for no class", x.forms(1), 1);
            }
        }
        QlRewrite x = new QlRewrite();
        x.axiom(1, 15, 14);
        x.question(2);
        x.atom(0, true, 7, 0, 1);
        CHECK.due("the last role and itself turned", x.forms(0), 2);
        CHECK.form(x, 0, 1, 0, 1, r(7, 1, 0));
    }

    private static void meetingOfAny() {
        CHECK.sentence("Terms", "ANY is what the other one has there");
        QlRewrite x = new QlRewrite();
        x.question(2);
        x.atom(0, true, 7, 0, 2);
        x.atom(0, true, 7, 3, 1);
        CHECK.due("from 0 to ANY, from ANY to 1", x.forms(0), 2);
        CHECK.form(x, 0, 1, 0, 1, r(7, 0, 1));
        x.question(1);
        x.atom(1, true, 7, 0, 2);
        x.atom(1, true, 7, 3, 0);
        CHECK.due("from 0 to ANY, from ANY to 0", x.forms(1), 2);
        CHECK.form(x, 1, 1, 0, -1, r(7, 0, 0));
        x.question(0);
        x.atom(2, true, 7, 2, 3);
        x.atom(2, true, 7, 4, 4);
        CHECK.due("from ANY to ANY, and a loop", x.forms(2), 2);
        CHECK.form(x, 2, 0, -1, -1, r(7, 2, 2), r(7, ANY, ANY));
        CHECK.form(x, 2, 1, -1, -1, r(7, 2, 2));
        x.question(1);
        x.atom(3, false, 9, 2, 0);
        x.atom(3, false, 9, 0, 0);
        CHECK.due("classes, of ANY and of 0", x.forms(3), 2);
        CHECK.form(x, 3, 1, 0, -1, c(9, 0));
        // Both have ANY there, and it stays so.
        x.question(2);
        x.atom(4, true, 7, 0, 2);
        x.atom(4, true, 7, 1, 3);
        CHECK.due("from 0 and from 1 to ANY", x.forms(4), 2);
        CHECK.form(x, 4, 1, 0, 0, r(7, 0, ANY));
        // Class 7 and role 7 do not meet.
        x.question(0);
        x.atom(5, true, 7, 2, 3);
        x.atom(5, false, 7, 4, 0);
        CHECK.due("a class and a role", x.forms(5), 1);
    }

    private static void meetingBehindOthers() {
        CHECK.sentence("Terms", "ANY is what the other one has there");
        QlRewrite x = new QlRewrite();
        x.question(2);
        x.atom(0, false, 3, 1, 0);
        x.atom(0, true, 7, 0, 5);
        x.atom(0, true, 7, 1, 0);
        CHECK.due("the second and the third", x.forms(0), 2);
        CHECK.form(x, 0, 0, 0, 1, c(3, 1), r(7, 0, ANY), r(7, 1, 0));
        CHECK.form(x, 0, 1, 0, 0, c(3, 0), r(7, 0, 0));
        x.question(2);
        x.atom(1, false, 3, 0, 0);
        x.atom(1, false, 4, 0, 0);
        x.atom(1, true, 7, 0, 5);
        x.atom(1, true, 7, 0, 1);
        CHECK.due("the third and the fourth", x.forms(1), 2);
        CHECK.form(x, 1, 0, 0, 1, c(3, 0), c(4, 0), r(7, 0, 1), r(7, 0, ANY));
        CHECK.form(x, 1, 1, 0, 1, c(3, 0), c(4, 0), r(7, 0, 1));
        x.question(2);
        x.atom(2, false, 3, 0, 0);
        x.atom(2, true, 6, 1, 1);
        x.atom(2, true, 7, 0, 5);
        x.atom(2, true, 7, 1, 1);
        CHECK.due("the higher code has a variable there", x.forms(2), 2);
        CHECK.form(x, 2, 0, 0, 1, c(3, 0), r(6, 1, 1), r(7, 0, ANY), r(7, 1, 1));
        CHECK.form(x, 2, 1, 0, 0, c(3, 0), r(6, 0, 0), r(7, 0, 0));
    }

    private static void meetingInOrder() {
        CHECK.sentence("Terms", "for each two of its atoms (the first one by its code, then the second one) that MEET");
        QlRewrite x = new QlRewrite();
        x.question(2);
        x.atom(0, true, 0, 5, 5);
        x.atom(0, false, 5, 5, 0);
        x.atom(0, false, 5, 1, 0);
        x.atom(0, false, 5, 0, 0);
        CHECK.due("forms", x.forms(0), 5);
        CHECK.form(x, 0, 0, 0, 1, c(5, 0), c(5, 1), c(5, 2), r(0, 2, 2));
        CHECK.form(x, 0, 1, 0, 0, c(5, 0), c(5, 2), r(0, 2, 2));
        CHECK.form(x, 0, 2, 0, 1, c(5, 0), c(5, 1), r(0, 0, 0));
        CHECK.form(x, 0, 3, 0, 1, c(5, 0), c(5, 1), r(0, 1, 1));
        CHECK.form(x, 0, 4, 0, 0, c(5, 0), r(0, 0, 0));
        CHECK.sentence("Terms", "(One behind the other, the first places first.)");
        x.question(0);
        x.atom(1, true, 0, 2, 3);
        x.atom(1, true, 0, 3, 2);
        CHECK.due("2 to 3 and 3 to 2", x.forms(1), 2);
        CHECK.form(x, 1, 1, -1, -1, r(0, 2, 2));
        x.question(2);
        x.atom(2, true, 0, 1, 2);
        x.atom(2, true, 0, 2, 0);
        x.atom(2, false, 3, 2, 0);
        // 2 is 1, then 1 is 0: all are the first answer.
        CHECK.due("1 to 2 and 2 to 0", x.forms(2), 2);
        CHECK.form(x, 2, 0, 0, 1, c(3, 2), r(0, 1, 2), r(0, 2, 0));
        CHECK.form(x, 2, 1, 0, 0, c(3, 0), r(0, 0, 0));
    }
}
