import java.util.ArrayList;
import java.util.HashMap;
import java.util.LinkedHashSet;
import java.util.List;
import java.util.Map;
import java.util.Random;
import java.util.Set;
import java.util.TreeSet;

/**
 * What the forms find is what follows: answers are compared with those in the facts and all that
 * the axioms add to them, with things without a name where an axiom asks for one, to a depth that
 * is enough for two roles and four atoms.
 */
public final class ChaseTest {
    private static final int DEPTH = 9;
    private static final int MOST_FACTS = 400;
    private static final Check CHECK = new Check();

    private final Random lot;
    private final QlRewrite x = new QlRewrite();
    private final List<Oracle.Axiom> axioms = new ArrayList<>();
    private final Set<Oracle.Atom> facts = new LinkedHashSet<>();
    private final Map<String, Integer> depths = new HashMap<>();

    private ChaseTest(int run) {
        lot = new Random(1000 + run);
    }

    public static void main(String[] args) {
        int compared = 0;
        int byAxioms = 0;
        for (int run = 0; run < 3000 && !CHECK.failed(); run++) {
            ChaseTest test = new ChaseTest(run);
            test.tell();
            int told = test.facts.size();
            if (test.chase()) {
                compared += test.compare();
                byAxioms += test.facts.size() > told ? 1 : 0;
            }
        }
        System.out.println(compared + " questions compared, " + byAxioms + " times with facts by axioms");
        CHECK.due("enough was compared", compared > 1000 && byAxioms > 500 ? 1 : 0, 1);
        CHECK.end();
    }

    private void tell() {
        int most = 1 + lot.nextInt(6);
        for (int i = 0; i < most; i++) {
            int kind = lot.nextInt(4) == 0 ? 1 : 0;
            int a = kind == 1 ? lot.nextInt(4) : sort();
            int b = kind == 1 ? lot.nextInt(4) : sort();
            x.axiom(kind, a, b);
            axioms.add(new Oracle.Axiom(kind, a, b));
        }
        int some = 1 + lot.nextInt(4);
        for (int i = 0; i < some; i++) {
            boolean role = lot.nextInt(3) == 0;
            int name = lot.nextInt(role ? 2 : 3);
            int a = lot.nextInt(3);
            int b = lot.nextInt(3);
            x.fact(role, name, a, b);
            String first = String.valueOf(a);
            facts.add(role ? new Oracle.Atom("R" + name, List.of(first, String.valueOf(b)))
                : new Oracle.Atom("C" + name, List.of(first)));
        }
    }

    private int sort() {
        return lot.nextBoolean() ? lot.nextInt(3) : 20 + lot.nextInt(4);
    }

    /** False when it grows too big to be compared. */
    private boolean chase() {
        boolean changed = true;
        while (changed) {
            changed = false;
            for (Oracle.Axiom axiom : axioms) {
                for (Oracle.Atom fact : List.copyOf(facts)) {
                    changed |= axiom.kind() == 0 ? bySort(axiom, fact) : byWay(axiom, fact);
                }
                if (facts.size() > MOST_FACTS) {
                    return false;
                }
            }
        }
        return true;
    }

    private boolean bySort(Oracle.Axiom axiom, Oracle.Atom fact) {
        String member = memberOf(axiom.a(), fact);
        if (member == null) {
            return false;
        }
        for (Oracle.Atom other : facts) {
            if (member.equals(memberOf(axiom.b(), other))) {
                return false;
            }
        }
        int depth = depths.getOrDefault(member, 0) + 1;
        if (axiom.b() >= 20 && depth > DEPTH) {
            return false;
        }
        String fresh = "n" + depths.size();
        if (axiom.b() >= 20) {
            depths.put(fresh, depth);
        }
        return facts.add(Oracle.ofSort(axiom.b(), member, fresh));
    }

    private static String memberOf(int sort, Oracle.Atom fact) {
        String name = sort < 20 ? "C" + sort : "R" + (sort - 20) / 2;
        if (!fact.name().equals(name)) {
            return null;
        }
        return fact.places().get(sort < 20 ? 0 : sort % 2);
    }

    private boolean byWay(Oracle.Axiom axiom, Oracle.Atom fact) {
        if (!fact.name().equals("R" + axiom.a() / 2)) {
            return false;
        }
        String from = fact.places().get(axiom.a() % 2);
        String to = fact.places().get(1 - axiom.a() % 2);
        return facts.add(Oracle.ofWay(axiom.b(), from, to));
    }

    private int compare() {
        int compared = 0;
        for (int q = 0; q < 6; q++) {
            int answers = lot.nextInt(3);
            x.question(answers);
            List<Oracle.Atom> atoms = new ArrayList<>();
            StringBuilder told = new StringBuilder(axioms + " " + answers + " answers");
            int most = 1 + lot.nextInt(4);
            int variables = 2 + lot.nextInt(4);
            for (int i = 0; i < most; i++) {
                boolean role = lot.nextInt(3) > 0;
                int name = lot.nextInt(role ? 2 : 3);
                int a = lot.nextInt(variables);
                int b = lot.nextInt(variables);
                x.atom(q, role, name, a, b);
                String first = String.valueOf(a);
                atoms.add(role ? new Oracle.Atom("R" + name, List.of(first, String.valueOf(b)))
                    : new Oracle.Atom("C" + name, List.of(first)));
            }
            if (x.forms(q) != QlRewrite.LARGE) {
                compared++;
                same(q, told.append(atoms).append(facts).toString(), due(answers, atoms));
            }
        }
        return compared;
    }

    private List<Integer> due(int answers, List<Oracle.Atom> atoms) {
        List<String> row = new ArrayList<>();
        for (int i = 0; i < answers; i++) {
            row.add(String.valueOf(i));
        }
        Set<Integer> numbers = new TreeSet<>();
        for (List<String> found : Oracle.matches(row, atoms, facts)) {
            if (found.stream().noneMatch(depths::containsKey)) {
                int first = answers > 0 ? Integer.parseInt(found.get(0)) : 0;
                int second = answers > 1 ? Integer.parseInt(found.get(1)) : 0;
                numbers.add(16 * first + second);
            }
        }
        return new ArrayList<>(numbers);
    }

    private void same(int q, String told, List<Integer> due) {
        CHECK.due("run of " + told, x.run(q), due.size());
        for (int i = 0; i < due.size(); i++) {
            CHECK.due("answer " + i + " of " + told, x.answer(q, i), due.get(i));
        }
    }
}
