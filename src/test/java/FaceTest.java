import java.lang.reflect.Constructor;
import java.lang.reflect.Field;
import java.lang.reflect.Method;
import java.lang.reflect.Modifier;
import java.util.Arrays;
import java.util.Set;
import java.util.TreeSet;

/** The class has the document's face, and nothing else can be seen of it. */
public final class FaceTest {
    private static final Set<String> METHODS = new TreeSet<>(Arrays.asList(
            "int write(int)", "int wipe()", "int fault()", "int lay()",
            "int see(long)", "int rule(int,int)", "int clear()", "int undo()",
            "int blob(int,int)", "int open(int)", "int opening(int,int,int)", "int air(int)",
            "int gain()", "int best(int,int)", "int count(int)", "int told(int,int)"));
    private static final Set<String> CONSTANTS = new TreeSet<>(Arrays.asList(
            "int BAD", "int FULL", "int NO", "int NONE", "int ZERO"));

    public static void main(String[] args) {
        Answers answers = new Answers();
        answers.about("the face");
        Class<?> face = SpeckValves.class;
        answers.due("public and final", face.getModifiers(), Modifier.PUBLIC | Modifier.FINAL);
        answers.due("methods that are seen are " + methodsOf(face), methodsOf(face).equals(METHODS) ? 1 : 0, 1);
        answers.due("fields that are seen are " + fieldsOf(face), fieldsOf(face).equals(CONSTANTS) ? 1 : 0, 1);
        Constructor<?>[] made = face.getDeclaredConstructors();
        answers.due("constructors", made.length, 1);
        answers.due("the constructor's modifiers", made[0].getModifiers(), Modifier.PUBLIC);
        answers.due("the constructor's parameters", made[0].getParameterCount(), 0);
        privateNames(answers, face);
        for (Class<?> inside : face.getDeclaredClasses()) {
            answers.due(inside + " is static", Modifier.isStatic(inside.getModifiers()) ? 1 : 0, 1);
            privateNames(answers, inside);
        }
        constants(answers);
        answers.end();
    }

    private static void constants(Answers answers) {
        answers.due("BAD", SpeckValves.BAD, -1);
        answers.due("NO", SpeckValves.NO, -2);
        answers.due("FULL", SpeckValves.FULL, -3);
        answers.due("NONE", SpeckValves.NONE, -4);
        answers.due("ZERO", SpeckValves.ZERO, 10000);
    }

    private static void privateNames(Answers answers, Class<?> of) {
        for (Method method : of.getDeclaredMethods()) {
            boolean isPublicName = METHODS.stream().anyMatch(m -> m.startsWith("int " + method.getName() + "("));
            boolean isFace = of == SpeckValves.class && Modifier.isPublic(method.getModifiers());
            answers.due(method + " bears the name of a public one", isPublicName && !isFace ? 1 : 0, 0);
        }
    }

    private static Set<String> methodsOf(Class<?> of) {
        Set<String> seen = new TreeSet<>();
        for (Method method : of.getDeclaredMethods()) {
            if (!Modifier.isPrivate(method.getModifiers())) {
                String types = Arrays.toString(method.getParameterTypes()).replaceAll("[\\[\\] ]", "");
                seen.add(method.getReturnType() + " " + method.getName() + "(" + types + ")");
            }
        }
        return seen;
    }

    private static Set<String> fieldsOf(Class<?> of) {
        Set<String> seen = new TreeSet<>();
        for (Field field : of.getDeclaredFields()) {
            int is = field.getModifiers();
            if (!Modifier.isPrivate(is)) {
                boolean isConstant = Modifier.isPublic(is) && Modifier.isStatic(is) && Modifier.isFinal(is);
                seen.add(isConstant ? field.getType() + " " + field.getName() : field.toString());
            }
        }
        return seen;
    }
}
