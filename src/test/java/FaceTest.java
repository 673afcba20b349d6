import java.lang.reflect.Constructor;
import java.lang.reflect.Field;
import java.lang.reflect.Method;
import java.lang.reflect.Modifier;
import java.util.Set;
import java.util.TreeSet;

/** The class has the document's face and no other member that is not private. */
public final class FaceTest {
    private static final Check CHECK = new Check();

    public static void main(String[] args) throws Exception {
        CHECK.due("modifiers", QlRewrite.class.getModifiers(), Modifier.PUBLIC | Modifier.FINAL);
        CHECK.due("BAD", QlRewrite.BAD, -1);
        CHECK.due("FULL", QlRewrite.FULL, -2);
        CHECK.due("LARGE", QlRewrite.LARGE, -3);
        methods();
        fields();
        classes();
        CHECK.end();
    }

    private static void methods() {
        Set<String> due = Set.of(
            "axiom(int,int,int)", "fact(boolean,int,int,int)", "forget(boolean,int,int,int)",
            "question(int)", "atom(int,boolean,int,int,int)", "forms(int)", "form(int,int,int)",
            "run(int)", "answer(int,int)", "why(int,int)", "broken()", "count(int)", "clear()");
        Set<String> names = new TreeSet<>();
        for (String told : due) {
            names.add(told.substring(0, told.indexOf('(')));
        }
        Set<String> seen = new TreeSet<>();
        for (Method method : QlRewrite.class.getDeclaredMethods()) {
            String told = method.toString();
            told = told.substring(told.indexOf(method.getName() + "("));
            if (Modifier.isPrivate(method.getModifiers())) {
                CHECK.due("private " + told, names.contains(method.getName()) ? 1 : 0, 0);
            } else {
                CHECK.due("modifiers of " + told, method.getModifiers(), Modifier.PUBLIC);
                CHECK.due("type of " + told, method.getReturnType() == int.class ? 1 : 0, 1);
                seen.add(told);
            }
        }
        CHECK.due("methods " + seen, seen.equals(due) ? 1 : 0, 1);
        Constructor<?>[] made = QlRewrite.class.getDeclaredConstructors();
        CHECK.due("constructors", made.length, 1);
        CHECK.due("constructor", made[0].getModifiers(), Modifier.PUBLIC);
        CHECK.due("its parameters", made[0].getParameterCount(), 0);
    }

    private static void fields() {
        Set<String> seen = new TreeSet<>();
        for (Field field : QlRewrite.class.getDeclaredFields()) {
            int modifiers = field.getModifiers();
            if (!Modifier.isPrivate(modifiers)) {
                seen.add(field.getName());
                CHECK.due(field.getName(), modifiers, Modifier.PUBLIC | Modifier.STATIC | Modifier.FINAL);
            }
            if (Modifier.isStatic(modifiers)) {
                CHECK.due(field.getName() + " is final", Modifier.isFinal(modifiers) ? 1 : 0, 1);
            }
        }
        CHECK.due("constants " + seen, seen.equals(Set.of("BAD", "FULL", "LARGE")) ? 1 : 0, 1);
    }

    private static void classes() {
        Class<?>[] inside = QlRewrite.class.getDeclaredClasses();
        CHECK.due("not too many classes", inside.length < 12 ? 1 : 0, 1);
        for (Class<?> one : inside) {
            int modifiers = one.getModifiers();
            CHECK.due(one + " is static", Modifier.isStatic(modifiers) ? 1 : 0, 1);
            CHECK.due(one + " is inside", modifiers & (Modifier.PUBLIC | Modifier.PROTECTED), 0);
        }
    }
}
