/** Promises 1 to 6, 13 and 14: what is told to an object, and how much of it there is. */
public final class StateTest {
    private static final int[] FAR = {Integer.MIN_VALUE, -1, Integer.MAX_VALUE};
    private static final Check CHECK = new Check();

    public static void main(String[] args) {
        newObject();
        axioms();
        facts();
        fullOfFacts();
        forgets();
        questions();
        atoms();
        counts();
        clears();
        CHECK.end();
    }

    private static void newObject() {
        QlRewrite x = new QlRewrite();
        for (int what = 0; what < 3; what++) {
            CHECK.due("new: count(" + what + ")", x.count(what), 0);
        }
        CHECK.due("new: broken()", x.broken(), QlRewrite.BAD);
        CHECK.due("new: forms(0)", x.forms(0), QlRewrite.BAD);
        CHECK.due("new: clear()", x.clear(), 0);
        x.axiom(0, 1, 2);
        x.fact(false, 1, 2, 3);
        x.question(0);
        QlRewrite y = new QlRewrite();
        for (int what = 0; what < 3; what++) {
            CHECK.due("beside another: count(" + what + ")", y.count(what), 0);
        }
    }

    private static void axioms() {
        QlRewrite x = new QlRewrite();
        for (int kind = -1; kind <= 4; kind++) {
            for (int a = -1; a <= 40; a++) {
                boolean sort = a >= 0 && a <= 9 || a >= 20 && a <= 35;
                boolean way = a >= 0 && a <= 15;
                boolean good = kind == 0 || kind == 2 ? sort : (kind == 1 || kind == 3) && way;
                String name = "axiom(" + kind + ", " + a + ")";
                x = new QlRewrite();
                CHECK.due(name + " left", x.axiom(kind, a, 0), good ? 0 : QlRewrite.BAD);
                CHECK.due(name + " left counted", x.count(0), good ? 1 : 0);
                x = new QlRewrite();
                CHECK.due(name + " right", x.axiom(kind, 0, a), good ? 0 : QlRewrite.BAD);
                CHECK.due(name + " right counted", x.count(0), good ? 1 : 0);
            }
        }
        x = new QlRewrite();
        for (int far : FAR) {
            CHECK.due("axiom far kind", x.axiom(far, 0, 0), QlRewrite.BAD);
            for (int kind = 0; kind < 4; kind++) {
                CHECK.due("axiom far a", x.axiom(kind, far, 0), QlRewrite.BAD);
                CHECK.due("axiom far b", x.axiom(kind, 0, far), QlRewrite.BAD);
            }
        }
        for (int i = 0; i < 16; i++) {
            CHECK.due("axiom number " + i + ", equal ones too", x.axiom(i % 4, 1, 2), i);
        }
        CHECK.due("axiom 17", x.axiom(0, 1, 2), QlRewrite.FULL);
        CHECK.due("wrong axiom 17", x.axiom(0, 10, 2), QlRewrite.BAD);
        CHECK.due("axioms", x.count(0), 16);
    }

    private static void facts() {
        QlRewrite x = new QlRewrite();
        for (int name = -1; name <= 11; name++) {
            for (int thing = -1; thing <= 13; thing++) {
                String told = name + ", " + thing;
                boolean things = thing >= 0 && thing <= 11;
                boolean ofClass = name >= 0 && name <= 9 && things;
                boolean ofRole = name >= 0 && name <= 7 && things;
                x = new QlRewrite();
                CHECK.due("class " + told, x.fact(false, name, thing, -9), ofClass ? 1 : QlRewrite.BAD);
                CHECK.due("class again " + told, x.fact(false, name, thing, 99), ofClass ? 0 : QlRewrite.BAD);
                CHECK.due("role from " + told, x.fact(true, name, thing, 11), ofRole ? 1 : QlRewrite.BAD);
                CHECK.due("role again " + told, x.fact(true, name, thing, 11), ofRole ? 0 : QlRewrite.BAD);
                CHECK.due("role to " + told, x.fact(true, name, 10, thing), ofRole ? 1 : QlRewrite.BAD);
                CHECK.due("all " + told, x.count(1), (ofClass ? 1 : 0) + (ofRole ? 2 : 0));
            }
        }
        x = new QlRewrite();
        for (int far : FAR) {
            CHECK.due("far class", x.fact(false, far, 0, 0), QlRewrite.BAD);
            CHECK.due("far thing", x.fact(false, 0, far, 0), QlRewrite.BAD);
            CHECK.due("far role", x.fact(true, far, 0, 0), QlRewrite.BAD);
            CHECK.due("far from", x.fact(true, 0, far, 0), QlRewrite.BAD);
            CHECK.due("far to", x.fact(true, 0, 0, far), QlRewrite.BAD);
            CHECK.due("far forgotten class", x.forget(false, far, 0, 0), QlRewrite.BAD);
            CHECK.due("far forgotten thing", x.forget(false, 0, far, 0), QlRewrite.BAD);
            CHECK.due("far forgotten role", x.forget(true, far, 0, 0), QlRewrite.BAD);
            CHECK.due("far forgotten from", x.forget(true, 0, far, 0), QlRewrite.BAD);
            CHECK.due("far forgotten to", x.forget(true, 0, 0, far), QlRewrite.BAD);
        }
    }

    private static void fullOfFacts() {
        QlRewrite x = new QlRewrite();
        for (int i = 0; i < 60; i++) {
            boolean role = i % 2 == 0;
            CHECK.due("fact " + i, x.fact(role, i / 12, i % 12, i % 5), 1);
        }
        CHECK.due("60 facts", x.count(1), 60);
        CHECK.due("fact 61", x.fact(true, 7, 0, 0), QlRewrite.FULL);
        CHECK.due("fact 61 of a class", x.fact(false, 9, 0, 0), QlRewrite.FULL);
        CHECK.due("wrong fact 61", x.fact(true, 8, 0, 0), QlRewrite.BAD);
        CHECK.due("fact 0 again", x.fact(true, 0, 0, 0), 0);
        CHECK.due("forget fact 1", x.forget(false, 0, 1, 7), 1);
        CHECK.due("room again", x.fact(true, 7, 0, 0), 1);
        CHECK.due("full again", x.fact(false, 0, 1, 0), QlRewrite.FULL);
    }

    private static void forgets() {
        QlRewrite x = new QlRewrite();
        x.fact(false, 9, 11, 0);
        x.fact(true, 7, 11, 10);
        CHECK.due("role turned", x.forget(true, 7, 10, 11), 0);
        CHECK.due("other role", x.forget(true, 6, 11, 10), 0);
        CHECK.due("other class", x.forget(false, 8, 11, 0), 0);
        CHECK.due("other thing", x.forget(false, 9, 10, 0), 0);
        CHECK.due("no such class", x.forget(false, 10, 0, 0), QlRewrite.BAD);
        CHECK.due("no such role", x.forget(true, 8, 0, 0), QlRewrite.BAD);
        CHECK.due("no such thing", x.forget(false, 0, 12, 0), QlRewrite.BAD);
        CHECK.due("no such from", x.forget(true, 0, 12, 0), QlRewrite.BAD);
        CHECK.due("no such to", x.forget(true, 0, 0, 12), QlRewrite.BAD);
        CHECK.due("both left", x.count(1), 2);
        CHECK.due("class goes, b counts for nothing", x.forget(false, 9, 11, 99), 1);
        CHECK.due("class went", x.forget(false, 9, 11, 0), 0);
        CHECK.due("role goes", x.forget(true, 7, 11, 10), 1);
        CHECK.due("role went", x.forget(true, 7, 11, 10), 0);
        CHECK.due("none left", x.count(1), 0);
        CHECK.due("comes back", x.fact(true, 7, 11, 10), 1);
    }

    private static void questions() {
        QlRewrite x = new QlRewrite();
        for (int far : FAR) {
            CHECK.due("question far", x.question(far), QlRewrite.BAD);
        }
        CHECK.due("question(3)", x.question(3), QlRewrite.BAD);
        for (int i = 0; i < 6; i++) {
            CHECK.due("question " + i, x.question(i % 3), i);
            CHECK.due("without atoms", x.forms(i), QlRewrite.BAD);
        }
        CHECK.due("question 7", x.question(0), QlRewrite.FULL);
        CHECK.due("wrong question 7", x.question(3), QlRewrite.BAD);
        CHECK.due("questions", x.count(2), 6);
    }

    private static void atoms() {
        QlRewrite x = new QlRewrite();
        CHECK.due("no question", x.atom(0, false, 0, 0, 0), QlRewrite.BAD);
        x.question(1);
        for (int far : new int[] {Integer.MIN_VALUE, -1, 10, Integer.MAX_VALUE}) {
            CHECK.due("far question", x.atom(far, false, 0, 0, 0), QlRewrite.BAD);
            CHECK.due("far class", x.atom(0, false, far, 0, 0), QlRewrite.BAD);
            CHECK.due("far role", x.atom(0, true, far, 0, 0), QlRewrite.BAD);
            CHECK.due("far variable", x.atom(0, false, 0, far, 0), QlRewrite.BAD);
            CHECK.due("far first", x.atom(0, true, 0, far, 0), QlRewrite.BAD);
            CHECK.due("far second", x.atom(0, true, 0, 0, far), QlRewrite.BAD);
        }
        CHECK.due("question 1 of 1", x.atom(1, false, 0, 0, 0), QlRewrite.BAD);
        CHECK.due("role 8", x.atom(0, true, 8, 0, 0), QlRewrite.BAD);
        CHECK.due("variable 8", x.atom(0, false, 0, 8, 0), QlRewrite.BAD);
        CHECK.due("second 8", x.atom(0, true, 0, 0, 8), QlRewrite.BAD);
        CHECK.due("class 9 of 7", x.atom(0, false, 9, 7, 99), 1);
        CHECK.due("the same, other b", x.atom(0, false, 9, 7, -5), 1);
        CHECK.due("role 7", x.atom(0, true, 7, 7, 6), 2);
        CHECK.due("turned", x.atom(0, true, 7, 6, 7), 3);
        CHECK.due("turned again", x.atom(0, true, 7, 6, 7), 3);
        CHECK.due("class 7, not role 7", x.atom(0, false, 7, 7, 6), 4);
        CHECK.due("a fifth", x.atom(0, false, 0, 0, 0), QlRewrite.FULL);
        CHECK.due("a wrong fifth", x.atom(0, false, 10, 0, 0), QlRewrite.BAD);
        CHECK.due("one that it has", x.atom(0, true, 7, 7, 6), 4);
        CHECK.due("answers are no others", x.question(2), 1);
        CHECK.due("variable 0", x.atom(1, false, 0, 0, 0), 1);
        CHECK.due("variable 1", x.atom(1, false, 0, 1, 0), 2);
        CHECK.due("variable 6", x.atom(1, false, 0, 6, 0), 3);
        CHECK.due("variable 7", x.atom(1, false, 0, 7, 0), 4);
    }

    private static void counts() {
        QlRewrite x = new QlRewrite();
        x.axiom(0, 0, 1);
        x.fact(false, 0, 0, 0);
        x.fact(true, 0, 0, 0);
        x.question(0);
        x.question(1);
        x.question(2);
        CHECK.due("count(0)", x.count(0), 1);
        CHECK.due("count(1)", x.count(1), 2);
        CHECK.due("count(2)", x.count(2), 3);
        CHECK.due("count(3)", x.count(3), QlRewrite.BAD);
        for (int far : FAR) {
            CHECK.due("count far", x.count(far), QlRewrite.BAD);
        }
    }

    private static void clears() {
        QlRewrite x = new QlRewrite();
        x.axiom(0, 1, 0);
        x.fact(false, 1, 4, 0);
        for (int i = 0; i < 6; i++) {
            x.question(1);
            x.atom(i, false, 0, 0, 0);
            CHECK.due("run " + i, x.run(i), 1);
        }
        CHECK.due("clear()", x.clear(), 6);
        CHECK.due("clear() again", x.clear(), 0);
        CHECK.due("axioms stay", x.count(0), 1);
        CHECK.due("facts stay", x.count(1), 1);
        CHECK.due("no questions", x.count(2), 0);
        CHECK.due("forms of none", x.forms(0), QlRewrite.BAD);
        CHECK.due("run of none", x.run(0), QlRewrite.BAD);
        CHECK.due("atom of none", x.atom(0, false, 0, 0, 0), QlRewrite.BAD);
        CHECK.due("numbers begin again", x.question(2), 0);
        CHECK.due("without the old atoms", x.forms(0), QlRewrite.BAD);
        CHECK.due("its first atom", x.atom(0, false, 2, 0, 0), 1);
        CHECK.due("its forms", x.forms(0), 1);
        CHECK.due("its answers", x.run(0), 0);
    }
}
