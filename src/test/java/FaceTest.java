import java.lang.reflect.Constructor;
import java.lang.reflect.Field;
import java.lang.reflect.Method;
import java.lang.reflect.Modifier;
import java.util.Set;
import java.util.TreeSet;

/** The public face is the document's, and nothing more of the class can be seen (LANGUAGE.md, rule 1). */
public final class FaceTest {
    private static final String[] FACE = {
        "int status()", "int feed(int,int,int,int,int)", "int load(int)", "int fault(int)", "int many(int)",
        "int program(int,int)", "int fact(int,int)", "int atoms(int)", "int uses(int,int)", "long count(int,int)",
        "int least(int)", "int greatest(int)", "int first(int,int)", "int equal(int,int)", "int within(int,int)",
        "int telling(int,int,int)", "int whose(int,int)", "int same(int)", "int kinds()", "int swaps(int,int)",
        "long both(int,int,int)", "int rests(int)", "int rest(int,int)", "int next(int,int,int,int)",
        "int clear(int)", "int far(int,int)", "int right(int,int,int)", "int weakest(int,int)",
        "int strongest(int,int)", "int keeps(int,int)", "int needs(int,int)", "int fewest(int,int)",
        "int walk(int)", "int step(int,int)", "int walked(int)", "int make(int,int,int,int)", "int drop(int)",
        "int assume(int,boolean)", "int undo()", "int print(int)", "int out(int)"};

    private static int wrong = 0;

    public static void main(String[] args) {
        Class<?> face = TestJudge.class;
        check("public final class", Modifier.isPublic(face.getModifiers()) && Modifier.isFinal(face.getModifiers()));
        Set<String> names = methods(face);
        fields(face);
        for (Constructor<?> c : face.getDeclaredConstructors()) {
            check("constructor", Modifier.isPublic(c.getModifiers()) && c.getParameterCount() == 0);
        }
        for (Class<?> inside : face.getDeclaredClasses()) {
            check(inside + " is static", Modifier.isStatic(inside.getModifiers()));
            check(inside + " is not public", !Modifier.isPublic(inside.getModifiers()));
            for (Method m : inside.getDeclaredMethods()) {
                check(inside + "." + m.getName() + " bears a name of the face", !names.contains(m.getName()));
                check(inside + "." + m.getName() + " has too many parameters", m.getParameterCount() <= 7);
            }
            check(inside + " has too many fields", memberFields(inside) <= 20);
        }
        check("too many classes", face.getDeclaredClasses().length <= 11);
        check("too many fields", memberFields(face) <= 20);
        System.out.println("FaceTest: " + (wrong == 0 ? "the face is as due" : wrong + " wrong"));
        if (wrong != 0) {
            System.exit(1);
        }
    }

    private static Set<String> methods(Class<?> face) {
        Set<String> due = new TreeSet<>(Set.of(FACE));
        Set<String> names = new TreeSet<>();
        for (String line : FACE) {
            names.add(line.substring(line.indexOf(' ') + 1, line.indexOf('(')));
        }
        for (Method m : face.getDeclaredMethods()) {
            StringBuilder line = new StringBuilder(m.getReturnType() + " " + m.getName() + "(");
            for (Class<?> type : m.getParameterTypes()) {
                line.append(line.charAt(line.length() - 1) == '(' ? "" : ",").append(type);
            }
            line.append(")");
            if (Modifier.isPrivate(m.getModifiers())) {
                check("private " + m.getName() + " bears a name of the face", !names.contains(m.getName()));
            } else {
                check("not of the face: " + line, Modifier.isPublic(m.getModifiers()) && due.remove(line.toString()));
            }
        }
        check("missing: " + due, due.isEmpty());
        return names;
    }

    private static void fields(Class<?> face) {
        for (Field f : face.getDeclaredFields()) {
            boolean none = f.getName().equals("NONE") && Modifier.isPublic(f.getModifiers());
            check(f.getName() + " can be seen", none || Modifier.isPrivate(f.getModifiers()));
            check(f.getName() + " is static, not final",
                    !Modifier.isStatic(f.getModifiers()) || Modifier.isFinal(f.getModifiers()));
        }
    }

    private static int memberFields(Class<?> type) {
        int count = 0;
        for (Field f : type.getDeclaredFields()) {
            count += Modifier.isStatic(f.getModifiers()) ? 0 : 1;
        }
        return count;
    }

    private static void check(String what, boolean fine) {
        if (!fine) {
            wrong++;
            System.out.println("FaceTest: " + what);
        }
    }
}
