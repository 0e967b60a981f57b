import java.lang.reflect.Constructor;
import java.lang.reflect.Field;
import java.lang.reflect.Method;
import java.lang.reflect.Modifier;
import java.util.Arrays;
import java.util.TreeSet;

/** The class has the document's face and nothing else that others can see. */
public final class FaceTest {
    private static final String[] FACE = {
        "int put(int,int,int,int)", "int handler(int,int,int,int)", "int clear()", "boolean start()",
        "int step(int)", "int word(int)", "long wide(int)", "double single(int)", "double real(int)",
        "int kind(int)", "int size(int)", "long cell(int,int)", "double point(int,int)",
        "long field(int,int)", "boolean same(int,int)", "int told(int)", "int state(int)"
    };

    public static void main(String[] args) {
        Due due = new Due();
        TreeSet<String> seen = new TreeSet<>();
        for (Method m : FaultLoom.class.getDeclaredMethods()) {
            if (!Modifier.isPrivate(m.getModifiers())) {
                String text = m.toGenericString().replace("FaultLoom.", "").replace("public ", "");
                seen.add(text);
            }
        }
        TreeSet<String> wanted = new TreeSet<>(Arrays.asList(FACE));
        if (!seen.equals(wanted)) {
            due.miss("the face", seen.toString(), wanted.toString());
        }
        for (Field f : FaultLoom.class.getDeclaredFields()) {
            due.is("field " + f.getName() + " is private", Modifier.isPrivate(f.getModifiers()), true);
        }
        Constructor<?>[] makers = FaultLoom.class.getDeclaredConstructors();
        due.is("constructors", makers.length, 1);
        due.is("its parameters", makers[0].getParameterCount(), 0);
        int modifiers = FaultLoom.class.getModifiers();
        due.is("public final", Modifier.isPublic(modifiers) && Modifier.isFinal(modifiers), true);
        due.end();
    }
}
