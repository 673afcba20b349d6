/** Counts the answers of a test that are not as due, and tells them. */
final class Check {
    private String sentence = "";
    private int wrong = 0;
    private int seen = 0;

    /** What is due from here on is due by these words of the document. */
    void sentence(String where, String words) {
        sentence = where + ", \"" + words + "\": ";
    }

    void due(String call, long got, long want) {
        seen++;
        if (got != want) {
            tellWrong(call + " answered " + got + ", due is " + want);
        }
    }

    /** All that an object tells is what it told before. */
    void unchanged(QlRewrite x, String before) {
        String now = told(x);
        seen++;
        if (!now.equals(before)) {
            tellWrong("it told " + before + " before, and now " + now);
        }
    }

    private void tellWrong(String text) {
        wrong++;
        if (wrong <= 40) {
            System.out.println(sentence + text);
        }
    }

    boolean failed() {
        return wrong > 0;
    }

    void end() {
        System.out.println(seen + " answers, " + wrong + " not as due");
        if (wrong > 0 || seen == 0) {
            System.exit(1);
        }
    }

    /**
     * The numbers beside first .. last, the least and the greatest ones, and some that would be
     * among first .. last if they wrapped round.
     */
    static int[] outside(int first, int last) {
        return new int[] {
            first - 1, last + 1, Integer.MIN_VALUE, Integer.MIN_VALUE + last, Integer.MAX_VALUE,
            Integer.MAX_VALUE - last, last + 64, first + 256, last + 65536, first + (1 << 30),
        };
    }

    /** All that an object tells of itself; with few forms and answers these are few calls. */
    static String told(QlRewrite x) {
        StringBuilder all = new StringBuilder();
        int questions = x.count(2);
        all.append(x.count(0)).append(" axioms, ").append(x.count(1)).append(" facts, ");
        all.append(questions).append(" questions, broken ").append(x.broken());
        for (int q = 0; q < questions; q++) {
            int forms = x.forms(q);
            all.append("; forms ").append(forms);
            for (int i = 0; i < forms; i++) {
                int size = x.form(q, i, 0);
                all.append(" [").append(x.form(q, i, 1)).append(' ').append(x.form(q, i, 2));
                for (int k = 0; k < size; k++) {
                    all.append(k == 0 ? ": " : " ").append(x.form(q, i, 3 + k));
                }
                all.append(']');
            }
            int run = x.run(q);
            all.append(" run ").append(run);
            for (int i = 0; i < run; i++) {
                int answer = x.answer(q, i);
                all.append(' ').append(answer).append(" by ").append(x.why(q, answer));
            }
        }
        return all.toString();
    }

    /** The codes of a form, told as the document tells them. */
    static int ofClass(int name, int variable) {
        return 64 * name + 8 * variable + 7;
    }

    static int ofRole(int name, int first, int second) {
        return 64 * (32 + name) + 8 * first + second;
    }

    /** Form i of a question has these answers' variables and codes, and nothing more. */
    void form(QlRewrite x, int question, int i, int first, int second, int... codes) {
        String name = "form(" + question + ", " + i + ", ";
        due(name + "0)", x.form(question, i, 0), codes.length);
        due(name + "1)", x.form(question, i, 1), first);
        due(name + "2)", x.form(question, i, 2), second);
        for (int k = 0; k < 4; k++) {
            int want = k < codes.length ? codes[k] : QlRewrite.BAD;
            due(name + (3 + k) + ")", x.form(question, i, 3 + k), want);
        }
    }

    /** The question has these answers, in this order, and no more. */
    void answers(QlRewrite x, int question, int... numbers) {
        due("run(" + question + ")", x.run(question), numbers.length);
        for (int i = 0; i < numbers.length; i++) {
            due("answer(" + question + ", " + i + ")", x.answer(question, i), numbers[i]);
        }
        due("answer past the last", x.answer(question, numbers.length), QlRewrite.BAD);
        due("answer before the first", x.answer(question, -1), QlRewrite.BAD);
    }
}
