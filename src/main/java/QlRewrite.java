import java.util.Arrays;

/**
 * Questions over facts and axioms of classes and roles: each is rewritten by the axioms into all
 * that it could also mean, and what these forms find in the facts is what follows for it.
 */
public final class QlRewrite {
    public static final int BAD = -1;
    public static final int FULL = -2;
    public static final int LARGE = -3;

    private static final int CLASSES = 10;
    private static final int ROLES = 8;
    private static final int THINGS = 12;
    private static final int VARIABLES = 8;
    private static final int MOST_ANSWERS = 2;
    private static final int MOST_AXIOMS = 16;
    private static final int MOST_FACTS = 60;
    private static final int MOST_QUESTIONS = 6;
    private static final int MOST_ATOMS = 4;
    private static final int MOST_FORMS = 90;

    private static final int SORT_AXIOM = 0;
    private static final int WAY_AXIOM = 1;
    private static final int SORT_BAN = 2;
    private static final int WAY_BAN = 3;

    /** The first sort that is HAS or OF of a role. */
    private static final int ROLE_SORTS = 20;
    /** An atom's name is its class, or this and its role. */
    private static final int ROLE_NAMES = 32;

    /** Answers are variables 0 and 1; a form's others are named from here on. */
    private static final int OTHERS = 2;
    private static final int ANY = 6;
    /** Stands in the second place of an atom of a class. */
    private static final int NONE = 7;
    /** A question's variables that are no answers are kept above ANY and NONE, not to be mixed up. */
    private static final int UNNAMED = 8;
    private static final int ALL_VARIABLES = UNNAMED + VARIABLES;

    /** An answer's number is this times the first thing, and the second one. */
    private static final int FIRST_THING = 16;
    private static final int NUMBERS = FIRST_THING * THINGS;

    private final Axioms axioms;
    private final Facts facts;
    private final Question[] asked;
    private int questions;
    /** Without answers; broken() asks it for one axiom after another. */
    private final Question forbidden;
    private final Rewriter rewriter;
    private final Finder finder;
    private int breaking;
    private boolean breakingKnown;

    public QlRewrite() {
        axioms = new Axioms();
        facts = new Facts();
        asked = new Question[MOST_QUESTIONS];
        for (int i = 0; i < MOST_QUESTIONS; i++) {
            asked[i] = new Question();
        }
        questions = 0;
        forbidden = new Question();
        rewriter = new Rewriter(axioms);
        finder = new Finder(facts);
        breaking = BAD;
        breakingKnown = false;
    }

    public int axiom(int kind, int a, int b) {
        if (!isAxiom(kind, a, b)) {
            return BAD;
        }
        if (axioms.size >= MOST_AXIOMS) {
            return FULL;
        }
        axioms.add(kind, a, b);
        for (int i = 0; i < questions; i++) {
            asked[i].rewritten = false;
        }
        forgetFound();
        return axioms.size - 1;
    }

    public int fact(boolean role, int name, int a, int b) {
        if (!isFact(role, name, a, b)) {
            return BAD;
        }
        if (facts.has(role, name, a, b)) {
            return 0;
        }
        if (facts.size >= MOST_FACTS) {
            return FULL;
        }
        facts.put(role, name, a, b, true);
        forgetFound();
        return 1;
    }

    public int forget(boolean role, int name, int a, int b) {
        if (!isFact(role, name, a, b)) {
            return BAD;
        }
        if (!facts.has(role, name, a, b)) {
            return 0;
        }
        facts.put(role, name, a, b, false);
        forgetFound();
        return 1;
    }

    public int question(int answers) {
        if (!isBelow(answers, MOST_ANSWERS + 1)) {
            return BAD;
        }
        if (questions >= MOST_QUESTIONS) {
            return FULL;
        }
        asked[questions].begin(answers);
        questions++;
        return questions - 1;
    }

    public int atom(int question, boolean role, int name, int a, int b) {
        if (!isBelow(question, questions) || !isName(role, name)) {
            return BAD;
        }
        if (!isBelow(a, VARIABLES) || role && !isBelow(b, VARIABLES)) {
            return BAD;
        }
        Question q = asked[question];
        int atomName = role ? ROLE_NAMES + name : name;
        int first = q.variable(a);
        int second = role ? q.variable(b) : NONE;
        if (q.own.holds(atomName, first, second)) {
            return q.own.size;
        }
        if (q.own.size >= MOST_ATOMS) {
            return FULL;
        }
        q.own.add(atomName, first, second);
        q.rewritten = false;
        return q.own.size;
    }

    public int forms(int question) {
        return rewritten(question);
    }

    public int form(int question, int i, int what) {
        int size = rewritten(question);
        if (size < 0) {
            return size;
        }
        if (!isBelow(i, size)) {
            return BAD;
        }
        Question q = asked[question];
        long row = q.rows[i];
        if (what == 0) {
            return Form.sizeOf(row);
        }
        if (what == 1) {
            return q.answers >= 1 ? 0 : BAD;
        }
        if (what == 2) {
            return q.answers < 2 ? BAD : Form.isJoined(row) ? 0 : 1;
        }
        // Not what - 3 at once: it would wrap round for the least numbers.
        if (what < 3 || what >= 3 + Form.sizeOf(row)) {
            return BAD;
        }
        return Form.codeOf(row, what - 3);
    }

    public int run(int question) {
        int size = rewritten(question);
        return size < 0 ? size : searched(question).found();
    }

    public int answer(int question, int i) {
        int size = rewritten(question);
        return size < 0 ? size : searched(question).number(i);
    }

    public int why(int question, int answer) {
        int size = rewritten(question);
        if (size < 0) {
            return size;
        }
        return isBelow(answer, NUMBERS) ? searched(question).finders[answer] : BAD;
    }

    public int broken() {
        if (!breakingKnown) {
            breaking = leastBreaking();
            breakingKnown = true;
        }
        return breaking;
    }

    public int count(int what) {
        switch (what) {
            case 0:
                return axioms.size;
            case 1:
                return facts.size;
            case 2:
                return questions;
            default:
                return BAD;
        }
    }

    public int clear() {
        int were = questions;
        questions = 0;
        return were;
    }

    private static boolean isBelow(int number, int end) {
        return number >= 0 && number < end;
    }

    private static boolean isSort(int sort) {
        return isBelow(sort, CLASSES) || sort >= ROLE_SORTS && sort < ROLE_SORTS + 2 * ROLES;
    }

    private static boolean isAxiom(int kind, int a, int b) {
        if (kind == SORT_AXIOM || kind == SORT_BAN) {
            return isSort(a) && isSort(b);
        }
        if (kind == WAY_AXIOM || kind == WAY_BAN) {
            return isBelow(a, 2 * ROLES) && isBelow(b, 2 * ROLES);
        }
        return false;
    }

    private static boolean isName(boolean role, int name) {
        return isBelow(name, role ? ROLES : CLASSES);
    }

    private static boolean isFact(boolean role, int name, int a, int b) {
        return isName(role, name) && isBelow(a, THINGS) && (!role || isBelow(b, THINGS));
    }

    private void forgetFound() {
        for (int i = 0; i < questions; i++) {
            asked[i].searched = false;
        }
        breakingKnown = false;
    }

    /** How many forms a question has, or BAD or LARGE; they stand in its rows then. */
    private int rewritten(int question) {
        if (!isBelow(question, questions) || asked[question].own.size == 0) {
            return BAD;
        }
        Question q = asked[question];
        if (!q.rewritten) {
            rewriter.rewrite(q);
        }
        return q.large ? LARGE : q.size;
    }

    /** A question that is rewritten, with what its forms find. */
    private Question searched(int question) {
        Question q = asked[question];
        if (!q.searched) {
            finder.search(q);
        }
        return q;
    }

    /** The first axiom that breaks the facts or is too large decides. */
    private int leastBreaking() {
        for (int i = 0; i < axioms.size; i++) {
            if (axioms.forbids(i)) {
                axioms.fillForbidden(i, forbidden.own);
                rewriter.rewrite(forbidden);
                if (forbidden.large) {
                    return LARGE;
                }
                finder.search(forbidden);
                if (forbidden.found() > 0) {
                    return i;
                }
            }
        }
        return BAD;
    }

    /** The axioms, and what stands for an atom by one of them. */
    private static final class Axioms {
        final int[] kinds = new int[MOST_AXIOMS];
        final int[] lefts = new int[MOST_AXIOMS];
        final int[] rights = new int[MOST_AXIOMS];
        int size = 0;

        void add(int kind, int a, int b) {
            if (size < MOST_AXIOMS) {
                kinds[size] = kind;
                lefts[size] = a;
                rights[size] = b;
                size++;
            }
        }

        boolean forbids(int i) {
            return kinds[i] == SORT_BAN || kinds[i] == WAY_BAN;
        }

        /** Fills a form with the two atoms that axiom i forbids together. */
        void fillForbidden(int i, Form form) {
            int x = UNNAMED;
            int y = UNNAMED + 1;
            form.size = 2;
            if (kinds[i] == SORT_BAN) {
                form.putSort(0, lefts[i], x);
                form.putSort(1, rights[i], x);
            } else {
                form.putWay(0, lefts[i], x, y);
                form.putWay(1, rights[i], x, y);
            }
        }

        /** Puts what stands for atom k by axiom i in its place; false if the axiom does not fit. */
        boolean replace(int i, Form form, int k) {
            int name = form.names[k];
            int first = form.places[2 * k];
            int second = form.places[2 * k + 1];
            if (kinds[i] == SORT_AXIOM) {
                int x = memberOf(rights[i], name, first, second);
                if (x == NONE) {
                    return false;
                }
                form.putSort(k, lefts[i], x);
                return true;
            }
            if (kinds[i] != WAY_AXIOM || name != ROLE_NAMES + rights[i] / 2) {
                return false;
            }
            if (rights[i] % 2 == 0) {
                form.putWay(k, lefts[i], first, second);
            } else {
                form.putWay(k, lefts[i], second, first);
            }
            return true;
        }

        /** The x of which an atom says just that it is of a sort, or NONE. */
        private static int memberOf(int sort, int name, int first, int second) {
            if (sort < ROLE_SORTS) {
                return name == sort ? first : NONE;
            }
            if (name != ROLE_NAMES + (sort - ROLE_SORTS) / 2) {
                return NONE;
            }
            if (sort % 2 == 0) {
                return second == ANY ? first : NONE;
            }
            return first == ANY ? second : NONE;
        }
    }

    /** The facts, as sets of things: bit t stands for thing t. */
    private static final class Facts {
        final int[] members = new int[CLASSES];
        final int[] targets = new int[ROLES * THINGS];
        final int[] sources = new int[ROLES * THINGS];
        final int[] starts = new int[ROLES];
        final int[] ends = new int[ROLES];
        int size = 0;

        boolean has(boolean role, int name, int a, int b) {
            return role ? isIn(b, targets[name * THINGS + a]) : isIn(a, members[name]);
        }

        void put(boolean role, int name, int a, int b, boolean holds) {
            if (role) {
                int from = name * THINGS + a;
                int to = name * THINGS + b;
                targets[from] = changed(targets[from], b, holds);
                sources[to] = changed(sources[to], a, holds);
                starts[name] = changed(starts[name], a, targets[from] != 0);
                ends[name] = changed(ends[name], b, sources[to] != 0);
            } else {
                members[name] = changed(members[name], a, holds);
            }
            size += holds ? 1 : -1;
        }

        /** The things that a role leads to themselves. */
        int loops(int role) {
            int set = 0;
            for (int thing = 0; thing < THINGS; thing++) {
                set |= targets[role * THINGS + thing] & 1 << thing;
            }
            return set;
        }

        static boolean isIn(int thing, int set) {
            return (set >> thing & 1) != 0;
        }

        private static int changed(int set, int thing, boolean in) {
            return in ? set | 1 << thing : set & ~(1 << thing);
        }
    }

    /**
     * A form at work. At rest it is a row: its atoms' codes, sorted, the first one highest, and
     * above them how many there are and whether both answers are the same variable.
     */
    private static final class Form {
        private static final int CODE_BITS = 12;
        private static final int CODE_MASK = 4095;
        private static final int SIZE_SHIFT = CODE_BITS * MOST_ATOMS;
        private static final int SIZE_MASK = 7;
        private static final int JOINED_SHIFT = SIZE_SHIFT + 3;

        final int[] names = new int[MOST_ATOMS];
        final int[] places = new int[2 * MOST_ATOMS];
        int size = 0;
        boolean joined = false;

        static int sizeOf(long row) {
            return (int) (row >> SIZE_SHIFT) & SIZE_MASK;
        }

        static boolean isJoined(long row) {
            return (row >> JOINED_SHIFT & 1) != 0;
        }

        static int codeOf(long row, int i) {
            return (int) (row >> CODE_BITS * (MOST_ATOMS - 1 - i)) & CODE_MASK;
        }

        /** The row of this form with sorted codes. */
        long rowOf(int[] codes) {
            long row = (joined ? 1L << JOINED_SHIFT : 0L) | (long) size << SIZE_SHIFT;
            for (int i = 0; i < size; i++) {
                row |= (long) codes[i] << CODE_BITS * (MOST_ATOMS - 1 - i);
            }
            return row;
        }

        void read(long row) {
            size = Math.min(sizeOf(row), MOST_ATOMS);
            joined = isJoined(row);
            for (int i = 0; i < size; i++) {
                int code = codeOf(row, i);
                put(i, code / 64, code / 8 % 8, code % 8);
            }
        }

        void copy(Form other) {
            size = other.size;
            joined = other.joined;
            System.arraycopy(other.names, 0, names, 0, MOST_ATOMS);
            System.arraycopy(other.places, 0, places, 0, 2 * MOST_ATOMS);
        }

        void put(int i, int name, int first, int second) {
            names[i] = name;
            places[2 * i] = first;
            places[2 * i + 1] = second;
        }

        void putSort(int i, int sort, int x) {
            if (sort < ROLE_SORTS) {
                put(i, sort, x, NONE);
            } else {
                // HAS r is of the way r, OF r of r turned round.
                putWay(i, sort - ROLE_SORTS, x, ANY);
            }
        }

        void putWay(int i, int way, int x, int y) {
            if (way % 2 == 0) {
                put(i, ROLE_NAMES + way / 2, x, y);
            } else {
                put(i, ROLE_NAMES + way / 2, y, x);
            }
        }

        void add(int name, int first, int second) {
            if (size < MOST_ATOMS) {
                put(size, name, first, second);
                size++;
            }
        }

        /** Leaves one of equal atoms; in which order they stand counts for nothing here. */
        void dropEqual() {
            for (int i = 0; i < size; i++) {
                for (int k = size - 1; k > i; k--) {
                    if (names[i] == names[k] && places[2 * i] == places[2 * k]
                            && places[2 * i + 1] == places[2 * k + 1]) {
                        size--;
                        names[k] = names[size];
                        places[2 * k] = places[2 * size];
                        places[2 * k + 1] = places[2 * size + 1];
                    }
                }
            }
        }

        boolean holds(int name, int first, int second) {
            for (int i = 0; i < size; i++) {
                if (names[i] == name && places[2 * i] == first && places[2 * i + 1] == second) {
                    return true;
                }
            }
            return false;
        }

        int timesOf(int variable) {
            int times = 0;
            for (int i = 0; i < 2 * size; i++) {
                if (places[i] == variable) {
                    times++;
                }
            }
            return times;
        }

        /** Makes atoms i and k of one name equal. */
        void unite(int i, int k) {
            for (int side = 0; side < 2; side++) {
                int a = places[2 * i + side];
                int b = places[2 * k + side];
                if (a == ANY) {
                    places[2 * i + side] = b;
                } else if (b == ANY) {
                    places[2 * k + side] = a;
                } else if (a != b) {
                    rename(Math.max(a, b), Math.min(a, b));
                }
            }
        }

        private void rename(int from, int to) {
            for (int i = 0; i < 2 * size; i++) {
                if (places[i] == from) {
                    places[i] = to;
                }
            }
            // Variable 1 is in a form only as the second answer, and only 0 is below it.
            if (from == 1) {
                joined = true;
            }
        }
    }

    /** Brings a form to the one row that all its equals share. */
    private static final class Namer {
        /** All orders of four; the first 1, 2 and 6 of them change but the first 1, 2 and 3 places. */
        private static final int[] ORDERS = {
            0, 1, 2, 3,  1, 0, 2, 3,  0, 2, 1, 3,  2, 0, 1, 3,  1, 2, 0, 3,  2, 1, 0, 3,
            0, 1, 3, 2,  1, 0, 3, 2,  0, 2, 3, 1,  2, 0, 3, 1,  1, 2, 3, 0,  2, 1, 3, 0,
            0, 3, 1, 2,  1, 3, 0, 2,  0, 3, 2, 1,  2, 3, 0, 1,  1, 3, 2, 0,  2, 3, 1, 0,
            3, 0, 1, 2,  3, 1, 0, 2,  3, 0, 2, 1,  3, 2, 0, 1,  3, 1, 2, 0,  3, 2, 1, 0,
        };
        private static final int[] ORDERS_OF = {1, 1, 2, 6, 24};
        /** Each round but the last makes a place ANY. */
        private static final int MOST_ROUNDS = 2 * MOST_ATOMS + 1;

        private final int[] named = new int[ALL_VARIABLES];
        private final int[] others = new int[MOST_ATOMS];
        private final int[] codes = new int[MOST_ATOMS];

        Namer() {
            for (int i = 0; i < UNNAMED; i++) {
                named[i] = i;
            }
        }

        long leastRow(Form form) {
            boolean changed = true;
            for (int round = 0; changed && round < MOST_ROUNDS; round++) {
                form.dropEqual();
                changed = freeSingle(form);
            }
            int size = gatherOthers(form);
            long least = 0;
            for (int order = 0; order < ORDERS_OF[size]; order++) {
                for (int i = 0; i < size; i++) {
                    named[others[i]] = OTHERS + ORDERS[MOST_ATOMS * order + i];
                }
                sortCodes(form);
                long row = form.rowOf(codes);
                if (order == 0 || row < least) {
                    least = row;
                }
            }
            return least;
        }

        private static boolean isOther(int variable) {
            return variable >= OTHERS && variable != ANY && variable != NONE;
        }

        private static boolean freeSingle(Form form) {
            boolean freed = false;
            for (int i = 0; i < 2 * form.size; i++) {
                if (isOther(form.places[i]) && form.timesOf(form.places[i]) == 1) {
                    form.places[i] = ANY;
                    freed = true;
                }
            }
            return freed;
        }

        /** Each of them stands twice at least, so that there are no more than atoms. */
        private int gatherOthers(Form form) {
            int size = 0;
            for (int i = 0; i < 2 * form.size; i++) {
                if (isOther(form.places[i]) && !isGathered(form.places[i], size) && size < MOST_ATOMS) {
                    others[size] = form.places[i];
                    size++;
                }
            }
            return size;
        }

        private boolean isGathered(int variable, int size) {
            for (int i = 0; i < size; i++) {
                if (others[i] == variable) {
                    return true;
                }
            }
            return false;
        }

        private void sortCodes(Form form) {
            for (int i = 0; i < form.size; i++) {
                int first = named[form.places[2 * i]];
                int second = named[form.places[2 * i + 1]];
                int code = 64 * form.names[i] + 8 * first + second;
                int k = i;
                while (k > 0 && codes[k - 1] > code) {
                    codes[k] = codes[k - 1];
                    k--;
                }
                codes[k] = code;
            }
        }
    }

    /** A question, its forms and what they find, as far as these are known. */
    private static final class Question {
        final Form own = new Form();
        int answers = 0;

        final long[] rows = new long[MOST_FORMS];
        int size = 0;
        boolean large = false;
        boolean rewritten = false;

        /** For each answer's number the first form that finds it, or BAD. */
        final int[] finders = new int[NUMBERS];
        boolean searched = false;

        void begin(int answersOfIt) {
            answers = answersOfIt;
            own.size = 0;
            rewritten = false;
        }

        int variable(int told) {
            return told < answers ? told : UNNAMED + told;
        }

        int found() {
            int found = 0;
            for (int i = 0; i < NUMBERS; i++) {
                if (finders[i] != BAD) {
                    found++;
                }
            }
            return found;
        }

        /** The number of answer i, or BAD. */
        int number(int i) {
            int found = 0;
            for (int number = 0; number < NUMBERS; number++) {
                if (finders[number] != BAD) {
                    if (found == i) {
                        return number;
                    }
                    found++;
                }
            }
            return BAD;
        }
    }

    /** Rewrites questions by the axioms till nothing new comes. */
    private static final class Rewriter {
        private final Axioms axioms;
        private final Namer namer = new Namer();
        private final Form form = new Form();
        private final Form next = new Form();

        Rewriter(Axioms axioms) {
            this.axioms = axioms;
        }

        void rewrite(Question q) {
            q.size = 0;
            q.large = false;
            next.copy(q.own);
            comes(q, namer.leastRow(next));
            // The forms grow as they are read, so that their own number is no end to be seen here.
            for (int i = 0; i < MOST_FORMS && i < q.size && !q.large; i++) {
                form.read(q.rows[i]);
                replaceAtoms(q);
                uniteAtoms(q);
            }
            q.rewritten = true;
            // What was found belongs to the forms that were before.
            q.searched = false;
        }

        private void replaceAtoms(Question q) {
            for (int i = 0; i < form.size; i++) {
                for (int k = 0; k < axioms.size && !q.large; k++) {
                    next.copy(form);
                    if (axioms.replace(k, next, i)) {
                        comes(q, namer.leastRow(next));
                    }
                }
            }
        }

        private void uniteAtoms(Question q) {
            for (int i = 0; i < form.size; i++) {
                for (int k = i + 1; k < form.size && !q.large; k++) {
                    if (form.names[i] == form.names[k]) {
                        next.copy(form);
                        next.unite(i, k);
                        comes(q, namer.leastRow(next));
                    }
                }
            }
        }

        /** A form comes, if it is none yet. */
        private void comes(Question q, long row) {
            for (int i = 0; i < q.size; i++) {
                if (q.rows[i] == row) {
                    return;
                }
            }
            if (q.size >= MOST_FORMS) {
                q.large = true;
                return;
            }
            q.rows[q.size] = row;
            q.size++;
        }
    }

    /** Looks for the answers that forms find in the facts. */
    private static final class Finder {
        private static final int NOTHING = -1;
        private static final int ALL_THINGS = (1 << THINGS) - 1;

        private final Facts facts;
        private final Form form = new Form();
        private final int[] things = new int[ANY];

        Finder(Facts facts) {
            this.facts = facts;
        }

        void search(Question q) {
            Arrays.fill(q.finders, BAD);
            for (int i = 0; i < q.size; i++) {
                form.read(q.rows[i]);
                Arrays.fill(things, NOTHING);
                if (!holdsAnywhere()) {
                    continue;
                }
                if (q.answers > 0) {
                    collect(q, i);
                } else if (q.finders[0] == BAD && completes(OTHERS)) {
                    q.finders[0] = i;
                }
            }
            q.searched = true;
        }

        /** Whether each atom is a fact somewhere, which is all that atoms of ANY alone ask. */
        private boolean holdsAnywhere() {
            for (int i = 0; i < form.size; i++) {
                int name = form.names[i];
                int set = name < ROLE_NAMES ? facts.members[name] : facts.starts[name - ROLE_NAMES];
                if (set == 0) {
                    return false;
                }
            }
            return true;
        }

        private void collect(Question q, int formNumber) {
            boolean apart = q.answers == 2 && !form.joined;
            if (form.timesOf(0) == 0 || apart && form.timesOf(1) == 0) {
                return;
            }
            int firsts = fitting(0);
            for (int a = 0; a < THINGS; a++) {
                if (Facts.isIn(a, firsts)) {
                    things[0] = a;
                    int seconds = apart ? fitting(1) : 1 << (form.joined ? a : 0);
                    for (int b = 0; b < THINGS; b++) {
                        int number = FIRST_THING * a + b;
                        if (Facts.isIn(b, seconds) && q.finders[number] == BAD) {
                            things[1] = b;
                            q.finders[number] = completes(OTHERS) ? formNumber : BAD;
                        }
                    }
                }
            }
        }

        /** Whether there are things for this variable and all behind it; there are at most four. */
        private boolean completes(int variable) {
            if (variable >= ANY || form.timesOf(variable) == 0) {
                return true;
            }
            int set = fitting(variable);
            boolean complete = false;
            for (int thing = 0; thing < THINGS && !complete; thing++) {
                if (Facts.isIn(thing, set)) {
                    things[variable] = thing;
                    complete = completes(variable + 1);
                }
            }
            things[variable] = NOTHING;
            return complete;
        }

        /** The things that a variable may have beside what the others have by now. */
        private int fitting(int variable) {
            int set = ALL_THINGS;
            for (int i = 0; i < form.size; i++) {
                int first = form.places[2 * i];
                int second = form.places[2 * i + 1];
                if (form.names[i] < ROLE_NAMES) {
                    set &= first == variable ? facts.members[form.names[i]] : ALL_THINGS;
                    continue;
                }
                int role = form.names[i] - ROLE_NAMES;
                if (first == variable && second == variable) {
                    set &= facts.loops(role);
                } else if (first == variable) {
                    int thing = thingOf(second);
                    set &= thing == NOTHING ? facts.starts[role] : facts.sources[role * THINGS + thing];
                } else if (second == variable) {
                    int thing = thingOf(first);
                    set &= thing == NOTHING ? facts.ends[role] : facts.targets[role * THINGS + thing];
                }
            }
            return set;
        }

        private int thingOf(int variable) {
            return variable < ANY ? things[variable] : NOTHING;
        }
    }
}
