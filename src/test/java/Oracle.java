import java.util.ArrayList;
import java.util.HashMap;
import java.util.LinkedHashSet;
import java.util.List;
import java.util.Map;
import java.util.Set;
import java.util.TreeMap;
import java.util.TreeSet;

/**
 * The document once more, written to be compared with and without a thought for speed: atoms are
 * lists of a name and variables told by texts, forms are looked for among all namings, and answers
 * by joining atom after atom with the facts.
 */
final class Oracle {
    static final int BAD = -1;
    static final int FULL = -2;
    static final int LARGE = -3;
    static final String ANY = "any";

    /** An atom: a name ("C3", "R2") and one or two variables. */
    record Atom(String name, List<String> places) {
        boolean isRole() {
            return name.charAt(0) == 'R';
        }

        int number() {
            return Integer.parseInt(name.substring(1));
        }
    }

    /** A form: the answers' variables, and the atoms in the order of their codes. */
    record Form(List<String> answers, List<Atom> atoms) { }

    record Axiom(int kind, int a, int b) { }

    static final class Question {
        final int answers;
        final Set<Atom> atoms = new LinkedHashSet<>();

        Question(int answers) {
            this.answers = answers;
        }
    }

    final int mostForms;
    final List<Axiom> axioms = new ArrayList<>();
    final Set<Atom> facts = new LinkedHashSet<>();
    final List<Question> questions = new ArrayList<>();

    Oracle() {
        this(90);
    }

    Oracle(int mostForms) {
        this.mostForms = mostForms;
    }

    int axiom(int kind, int a, int b) {
        if (kind < 0 || kind > 3 || !side(kind, a) || !side(kind, b)) {
            return BAD;
        }
        if (axioms.size() == 16) {
            return FULL;
        }
        axioms.add(new Axiom(kind, a, b));
        return axioms.size() - 1;
    }

    private static boolean side(int kind, int s) {
        return kind % 2 == 1 ? s >= 0 && s <= 15 : s >= 0 && s <= 9 || s >= 20 && s <= 35;
    }

    private static Atom told(boolean role, int name, int a, int b, int mostPlace) {
        if (name < 0 || name > (role ? 7 : 9) || a < 0 || a > mostPlace) {
            return null;
        }
        if (role && (b < 0 || b > mostPlace)) {
            return null;
        }
        String p = String.valueOf(a);
        return role ? new Atom("R" + name, List.of(p, String.valueOf(b))) : new Atom("C" + name, List.of(p));
    }

    int fact(boolean role, int name, int a, int b) {
        Atom f = told(role, name, a, b, 11);
        if (f == null) {
            return BAD;
        }
        if (facts.contains(f)) {
            return 0;
        }
        if (facts.size() == 60) {
            return FULL;
        }
        facts.add(f);
        return 1;
    }

    int forget(boolean role, int name, int a, int b) {
        Atom f = told(role, name, a, b, 11);
        return f == null ? BAD : facts.remove(f) ? 1 : 0;
    }

    int question(int answers) {
        if (answers < 0 || answers > 2) {
            return BAD;
        }
        if (questions.size() == 6) {
            return FULL;
        }
        questions.add(new Question(answers));
        return questions.size() - 1;
    }

    int atom(int question, boolean role, int name, int a, int b) {
        Atom t = told(role, name, a, b, 7);
        if (question < 0 || question >= questions.size() || t == null) {
            return BAD;
        }
        Set<Atom> atoms = questions.get(question).atoms;
        if (!atoms.contains(t) && atoms.size() == 4) {
            return FULL;
        }
        atoms.add(t);
        return atoms.size();
    }

    int forms(int question) {
        if (question < 0 || question >= questions.size() || questions.get(question).atoms.isEmpty()) {
            return BAD;
        }
        List<Form> all = allForms(questions.get(question));
        return all == null ? LARGE : all.size();
    }

    int form(int question, int i, int what) {
        int n = forms(question);
        if (n < 0) {
            return n;
        }
        if (i < 0 || i >= n || what < 0 || what > 6) {
            return BAD;
        }
        Form f = allForms(questions.get(question)).get(i);
        if (what == 0) {
            return f.atoms.size();
        }
        if (what <= 2) {
            return what <= f.answers.size() ? Integer.parseInt(f.answers.get(what - 1)) : -1;
        }
        return what - 3 < f.atoms.size() ? code(f.atoms.get(what - 3)) : BAD;
    }

    int run(int question) {
        int n = forms(question);
        return n < 0 ? n : found(questions.get(question)).size();
    }

    int answer(int question, int i) {
        int n = forms(question);
        if (n < 0) {
            return n;
        }
        List<Integer> numbers = new ArrayList<>(found(questions.get(question)).keySet());
        return i < 0 || i >= numbers.size() ? BAD : numbers.get(i);
    }

    int why(int question, int answer) {
        int n = forms(question);
        return n < 0 ? n : found(questions.get(question)).getOrDefault(answer, BAD);
    }

    int broken() {
        for (int i = 0; i < axioms.size(); i++) {
            Axiom axiom = axioms.get(i);
            if (axiom.kind < 2) {
                continue;
            }
            Question q = new Question(0);
            if (axiom.kind == 2) {
                q.atoms.add(ofSort(axiom.a, "x", "p"));
                q.atoms.add(ofSort(axiom.b, "x", "q"));
            } else {
                q.atoms.add(ofWay(axiom.a, "x", "y"));
                q.atoms.add(ofWay(axiom.b, "x", "y"));
            }
            if (allForms(q) == null) {
                return LARGE;
            }
            if (!found(q).isEmpty()) {
                return i;
            }
        }
        return BAD;
    }

    int count(int what) {
        return switch (what) {
            case 0 -> axioms.size();
            case 1 -> facts.size();
            case 2 -> questions.size();
            default -> BAD;
        };
    }

    int clear() {
        int n = questions.size();
        questions.clear();
        return n;
    }

    static Atom ofSort(int sort, String x, String other) {
        if (sort < 20) {
            return new Atom("C" + sort, List.of(x));
        }
        return sort % 2 == 0
            ? new Atom("R" + (sort - 20) / 2, List.of(x, other))
            : new Atom("R" + (sort - 21) / 2, List.of(other, x));
    }

    static Atom ofWay(int way, String x, String y) {
        return new Atom("R" + way / 2, way % 2 == 0 ? List.of(x, y) : List.of(y, x));
    }

    static int code(Atom atom) {
        int first = variable(atom.places.get(0));
        int second = atom.isRole() ? variable(atom.places.get(1)) : 7;
        return 64 * (atom.number() + (atom.isRole() ? 32 : 0)) + 8 * first + second;
    }

    private static int variable(String v) {
        return v.equals(ANY) ? 6 : Integer.parseInt(v);
    }

    /** All forms, or null when there are too many. */
    List<Form> allForms(Question q) {
        List<String> answers = new ArrayList<>();
        for (int i = 0; i < q.answers; i++) {
            answers.add(String.valueOf(i));
        }
        List<Form> all = new ArrayList<>();
        all.add(named(answers, q.atoms));
        for (int i = 0; i < all.size(); i++) {
            for (Form next : nexts(all.get(i))) {
                if (!all.contains(next)) {
                    all.add(next);
                    if (all.size() > mostForms) {
                        return null;
                    }
                }
            }
        }
        return all;
    }

    private List<Form> nexts(Form form) {
        List<Form> nexts = new ArrayList<>();
        for (Atom atom : form.atoms) {
            for (Axiom axiom : axioms) {
                Atom instead = instead(atom, axiom);
                if (instead != null) {
                    List<Atom> atoms = new ArrayList<>(form.atoms);
                    atoms.set(atoms.indexOf(atom), instead);
                    nexts.add(named(form.answers, atoms));
                }
            }
        }
        for (int i = 0; i < form.atoms.size(); i++) {
            for (int k = i + 1; k < form.atoms.size(); k++) {
                if (form.atoms.get(i).name.equals(form.atoms.get(k).name)) {
                    nexts.add(met(form, i, k));
                }
            }
        }
        return nexts;
    }

    private static Atom instead(Atom atom, Axiom axiom) {
        if (axiom.kind == 0) {
            for (String x : atom.places) {
                if (atom.equals(ofSort(axiom.b, x, ANY))) {
                    return ofSort(axiom.a, x, ANY);
                }
            }
        }
        if (axiom.kind == 1 && atom.name.equals("R" + axiom.b / 2)) {
            String x = atom.places.get(axiom.b % 2);
            String y = atom.places.get(1 - axiom.b % 2);
            return ofWay(axiom.a, x, y);
        }
        return null;
    }

    /** The second atom goes; the first one takes what is known of both. */
    private static Form met(Form form, int i, int k) {
        List<String> answers = new ArrayList<>(form.answers);
        List<Atom> atoms = new ArrayList<>(form.atoms);
        int places = atoms.get(i).places.size();
        for (int p = 0; p < places; p++) {
            String one = atoms.get(i).places.get(p);
            String two = atoms.get(k).places.get(p);
            if (one.equals(ANY)) {
                List<String> filled = new ArrayList<>(atoms.get(i).places);
                filled.set(p, two);
                atoms.set(i, new Atom(atoms.get(i).name, filled));
            } else if (!two.equals(ANY) && !one.equals(two)) {
                boolean oneStays = Integer.parseInt(one) < Integer.parseInt(two);
                String stays = oneStays ? one : two;
                String goes = oneStays ? two : one;
                atoms.replaceAll(a -> renamed(a, Map.of(goes, stays)));
                answers.replaceAll(v -> v.equals(goes) ? stays : v);
            }
        }
        atoms.remove(k);
        return named(answers, atoms);
    }

    private static Atom renamed(Atom atom, Map<String, String> names) {
        List<String> places = new ArrayList<>();
        for (String v : atom.places) {
            places.add(names.getOrDefault(v, v));
        }
        return new Atom(atom.name, places);
    }

    static Form named(List<String> answers, Iterable<Atom> told) {
        Set<Atom> atoms = new LinkedHashSet<>();
        told.forEach(atoms::add);
        while (true) {
            Map<String, Integer> times = new HashMap<>();
            atoms.forEach(a -> a.places.forEach(v -> times.merge(v, 1, Integer::sum)));
            Map<String, String> free = new HashMap<>();
            times.forEach((v, n) -> {
                if (n == 1 && !answers.contains(v) && !v.equals(ANY)) {
                    free.put(v, ANY);
                }
            });
            if (free.isEmpty()) {
                break;
            }
            Set<Atom> next = new LinkedHashSet<>();
            atoms.forEach(a -> next.add(renamed(a, free)));
            atoms = next;
        }
        Set<String> others = new TreeSet<>();
        atoms.forEach(a -> others.addAll(a.places));
        others.removeAll(answers);
        others.remove(ANY);
        List<Atom> least = null;
        for (List<String> order : orders(new ArrayList<>(others))) {
            Map<String, String> names = new HashMap<>();
            for (int i = 0; i < order.size(); i++) {
                names.put(order.get(i), String.valueOf(2 + i));
            }
            List<Atom> row = new ArrayList<>();
            atoms.forEach(a -> row.add(renamed(a, names)));
            row.sort((a, b) -> Integer.compare(code(a), code(b)));
            if (least == null || before(row, least)) {
                least = row;
            }
        }
        return new Form(List.copyOf(answers), least);
    }

    private static boolean before(List<Atom> row, List<Atom> other) {
        for (int i = 0; i < row.size(); i++) {
            int difference = code(row.get(i)) - code(other.get(i));
            if (difference != 0) {
                return difference < 0;
            }
        }
        return false;
    }

    private static List<List<String>> orders(List<String> some) {
        List<List<String>> all = new ArrayList<>();
        if (some.isEmpty()) {
            all.add(new ArrayList<>());
        }
        for (String last : some) {
            List<String> rest = new ArrayList<>(some);
            rest.remove(last);
            for (List<String> order : orders(rest)) {
                order.add(last);
                all.add(order);
            }
        }
        return all;
    }

    /** Each answer's number with the first form that finds it. */
    TreeMap<Integer, Integer> found(Question q) {
        TreeMap<Integer, Integer> found = new TreeMap<>();
        List<Form> all = allForms(q);
        for (int i = 0; i < all.size(); i++) {
            for (List<String> answer : matches(all.get(i).answers, all.get(i).atoms, facts)) {
                int first = answer.size() > 0 ? Integer.parseInt(answer.get(0)) : 0;
                int second = answer.size() > 1 ? Integer.parseInt(answer.get(1)) : 0;
                found.putIfAbsent(16 * first + second, i);
            }
        }
        return found;
    }

    /** What the answers' variables have, in all ways to make all atoms facts. */
    static Set<List<String>> matches(List<String> answers, List<Atom> atoms, Set<Atom> facts) {
        Set<Map<String, String>> ways = new LinkedHashSet<>();
        ways.add(Map.of());
        for (Atom atom : atoms) {
            Set<Map<String, String>> longer = new LinkedHashSet<>();
            for (Map<String, String> way : ways) {
                for (Atom fact : facts) {
                    Map<String, String> more = joined(way, atom, fact);
                    if (more != null) {
                        longer.add(more);
                    }
                }
            }
            ways = longer;
        }
        Set<List<String>> found = new LinkedHashSet<>();
        for (Map<String, String> way : ways) {
            if (way.keySet().containsAll(answers)) {
                List<String> answer = new ArrayList<>();
                answers.forEach(v -> answer.add(way.get(v)));
                found.add(answer);
            }
        }
        return found;
    }

    private static Map<String, String> joined(Map<String, String> way, Atom atom, Atom fact) {
        if (!atom.name.equals(fact.name)) {
            return null;
        }
        Map<String, String> more = new HashMap<>(way);
        for (int p = 0; p < atom.places.size(); p++) {
            String v = atom.places.get(p);
            if (!v.equals(ANY)) {
                String before = more.putIfAbsent(v, fact.places.get(p));
                if (before != null && !before.equals(fact.places.get(p))) {
                    return null;
                }
            }
        }
        return more;
    }
}
