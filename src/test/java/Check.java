/** Counts the answers of a test that are not as due, and tells them. */
final class Check {
    private int wrong = 0;
    private int seen = 0;

    void due(String call, long got, long want) {
        seen++;
        if (got != want) {
            wrong++;
            if (wrong <= 40) {
                System.out.println(call + " answered " + got + ", due is " + want);
            }
        }
    }

    boolean failed() {
        return wrong > 0;
    }

    void end() {
        System.out.println(seen + " answers, " + wrong + " not as due");
        if (wrong > 0 || seen == 0) {
            System.exit(1);
        }
    }

    /** The codes of a form, told as the document tells them. */
    static int ofClass(int name, int variable) {
        return 64 * name + 8 * variable + 7;
    }

    static int ofRole(int name, int first, int second) {
        return 64 * (32 + name) + 8 * first + second;
    }

    /** Form i of a question has these answers' variables and codes, and nothing more. */
    void form(QlRewrite x, int question, int i, int first, int second, int... codes) {
        String name = "form(" + question + ", " + i + ", ";
        due(name + "0)", x.form(question, i, 0), codes.length);
        due(name + "1)", x.form(question, i, 1), first);
        due(name + "2)", x.form(question, i, 2), second);
        for (int k = 0; k < 4; k++) {
            int want = k < codes.length ? codes[k] : QlRewrite.BAD;
            due(name + (3 + k) + ")", x.form(question, i, 3 + k), want);
        }
    }
}
