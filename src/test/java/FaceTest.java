import java.lang.reflect.Field;
import java.lang.reflect.Method;
import java.lang.reflect.Modifier;
import java.util.Arrays;
import java.util.Set;
import java.util.TreeSet;

/** The face is the document's and no other, and keeps to rules 1, 5 and 11 of LANGUAGE.md. */
public final class FaceTest {
    private static final String[] FACE = {
        "int type(int)", "int clear()", "int read()", "int append(int,int)", "int babble(int,int)",
        "int mark(int,int,int,int)", "int unmark(int)", "int hold(int,boolean)", "int set(int,int)",
        "int setting(int)", "int about(int,int)", "int level(int)", "int cuts()", "int cut(int,int)",
        "int sum(int)", "int bestWindow()", "int greatestDoubt(int)", "int length()", "int heard(int,int)",
        "int where(int)", "int clicks(int)", "float loudness()", "float share()", "int silence()",
        "int undo()", "long fingerprint()",
    };

    public static void main(String[] args) {
        Due.due("BAD", SpeechCleaner.BAD, -1);
        Due.due("STATE", SpeechCleaner.STATE, -2);
        Due.due("FULL", SpeechCleaner.FULL, -3);
        Due.due("NONE", SpeechCleaner.NONE, -9);
        checkMethods();
        checkFields(SpeechCleaner.class);
        for (Class<?> inside : SpeechCleaner.class.getDeclaredClasses()) {
            Due.due(inside + " is static", Modifier.isStatic(inside.getModifiers()) ? 1 : 0, 1);
            checkFields(inside);
        }
        Due.due("the class is public and final",
            SpeechCleaner.class.getModifiers() & (Modifier.PUBLIC | Modifier.FINAL), Modifier.PUBLIC | Modifier.FINAL);
        Due.end("FaceTest");
    }

    private static void checkMethods() {
        Set<String> got = new TreeSet<>();
        Set<String> publicNames = new TreeSet<>();
        for (Method m : SpeechCleaner.class.getDeclaredMethods()) {
            if (Modifier.isPrivate(m.getModifiers())) {
                continue;
            }
            publicNames.add(m.getName());
            StringBuilder types = new StringBuilder();
            for (Class<?> p : m.getParameterTypes()) {
                types.append(types.length() == 0 ? "" : ",").append(p.getName());
            }
            got.add(m.getReturnType().getName() + " " + m.getName() + "(" + types + ")");
        }
        Due.dueText("the face", got.toString(), new TreeSet<>(Arrays.asList(FACE)).toString());
        for (Method m : SpeechCleaner.class.getDeclaredMethods()) {
            if (Modifier.isPrivate(m.getModifiers())) {
                Due.due("private " + m.getName() + " bears a public name", publicNames.contains(m.getName()) ? 1 : 0, 0);
            }
        }
    }

    private static void checkFields(Class<?> of) {
        int own = 0;
        for (Field f : of.getDeclaredFields()) {
            boolean fixed = Modifier.isStatic(f.getModifiers());
            if (fixed) {
                Due.due(f + " is final", Modifier.isFinal(f.getModifiers()) ? 1 : 0, 1);
            } else {
                own++;
            }
            boolean named = fixed && Set.of("BAD", "STATE", "FULL", "NONE").contains(f.getName());
            if (of == SpeechCleaner.class && !named) {
                Due.due(f + " is private", Modifier.isPrivate(f.getModifiers()) ? 1 : 0, 1);
            }
        }
        Due.due("too many fields in " + of, own > 20 ? own : 0, 0);
    }
}
