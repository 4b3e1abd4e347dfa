import java.lang.reflect.Constructor;
import java.lang.reflect.Field;
import java.lang.reflect.Method;
import java.lang.reflect.Modifier;
import java.util.Set;
import java.util.TreeSet;

/** The public face: the document's constructor and methods, and nothing else that can be seen. */
public final class FaceTest {
    private static final String[] FACE = {
        "int add(int,int,int,int)", "void clear()", "int build()", "boolean levels(int)",
        "boolean below(int,int)", "boolean label(boolean,int,int)", "int lattice()", "int depends(int,int)",
        "boolean summary(int,int,int)", "int slice(int,boolean)", "int fit()", "boolean sliced(int)",
        "boolean input(int,int)", "int run(boolean,int)", "int steps()", "int seen(int)",
        "int written(int,int)", "int check()", "int flow(int)"
    };

    public static void main(String[] args) {
        Class<?> face = ProgramSlices.class;
        Expect.same("public and final", face.getModifiers(), Modifier.PUBLIC | Modifier.FINAL);
        Set<String> due = new TreeSet<>(Set.of(FACE));
        Set<String> names = new TreeSet<>();
        for (Method method : face.getDeclaredMethods()) {
            String line = line(method);
            if (!Modifier.isPrivate(method.getModifiers())) {
                Expect.same("due in the face: " + line, due.remove(line), true);
                Expect.same("public: " + line, method.getModifiers(), Modifier.PUBLIC);
                names.add(method.getName());
            }
        }
        Expect.same("missing in the face: " + due, due.size(), 0);
        Constructor<?>[] constructors = face.getDeclaredConstructors();
        Expect.same("constructors", constructors.length, 1);
        Expect.same("constructor's parameters", constructors[0].getParameterCount(), 0);
        Expect.same("constructor is public", constructors[0].getModifiers(), Modifier.PUBLIC);
        for (Field field : face.getDeclaredFields()) {
            Expect.same("private: " + field.getName(), Modifier.isPrivate(field.getModifiers()), true);
        }
        checkNames(face, names);
        for (Class<?> inner : face.getDeclaredClasses()) {
            Expect.same("static: " + inner.getName(), Modifier.isStatic(inner.getModifiers()), true);
            checkNames(inner, names);
        }
        Expect.finish();
    }

    private static String line(Method method) {
        StringBuilder text = new StringBuilder(method.getReturnType().getName());
        text.append(' ').append(method.getName()).append('(');
        String comma = "";
        for (Class<?> type : method.getParameterTypes()) {
            text.append(comma).append(type.getName());
            comma = ",";
        }
        return text.append(')').toString();
    }

    /** LANGUAGE.md, rule 1: no private method bears the name of a public one. */
    private static void checkNames(Class<?> type, Set<String> names) {
        for (Method method : type.getDeclaredMethods()) {
            if (!Modifier.isPublic(method.getModifiers())) {
                Expect.same("name of the face: " + method, names.contains(method.getName()), false);
            }
        }
    }
}
