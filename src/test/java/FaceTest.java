import java.lang.reflect.Constructor;
import java.lang.reflect.Field;
import java.lang.reflect.Member;
import java.lang.reflect.Method;
import java.lang.reflect.Modifier;
import java.util.Arrays;
import java.util.List;
import java.util.NoSuchElementException;

/** The class shows the document's face and nothing else. */
public final class FaceTest {
    private static final Due DUE = new Due("FaceTest");
    private static final List<String> FACE = Arrays.asList(
        "boolean measure(int, int, int, int)", "int drum(int, int, int, int, int)",
        "boolean set(int, int, int)", "int column(int, int, int)", "int turn(int, int)",
        "int fits(int, int)", "boolean hand(int, int)", "boolean not(int, int, boolean)",
        "int least()", "long ways()", "int first(int)", "int sure(int)", "int open(int)",
        "int bears(int)", "int cracked()", "int setting(int)", "int tall(int)",
        "int told(int, int)", "int place(int, int)", "int count(int)");

    public static void main(String[] args) throws NoSuchMethodException {
        int kind = DrumYard.class.getModifiers();
        DUE.yes("public and final", Modifier.isPublic(kind) && Modifier.isFinal(kind));
        int methods = 0;
        for (Method method : DrumYard.class.getDeclaredMethods()) {
            boolean isOfFace = FACE.contains(written(method));
            DUE.yes(method + " is of the face, or private", isOfFace || isPrivate(method));
            DUE.yes(method + " of the face is public", !isOfFace || Modifier.isPublic(method.getModifiers()));
            DUE.yes(method + " has no name of the face", isOfFace || !isNameOfFace(method.getName()));
            methods += isOfFace ? 1 : 0;
        }
        DUE.is("methods of the face", methods, FACE.size());
        for (Field field : DrumYard.class.getDeclaredFields()) {
            boolean isOfFace = field.getName().equals("NONE") || field.getName().equals("NEW");
            DUE.yes(field + " is of the face, or private", isOfFace || isPrivate(field));
        }
        Constructor<?>[] constructors = DrumYard.class.getDeclaredConstructors();
        DUE.is("constructors", constructors.length, 1);
        DUE.is("what it takes", constructors[0].getParameterCount(), 0);
        DUE.yes("it is public", Modifier.isPublic(constructors[0].getModifiers()));
        Method told = DrumYard.class.getMethod("told", int.class, int.class);
        DUE.yes("told() throws", Arrays.asList(told.getExceptionTypes()).contains(NoSuchElementException.class));
        DUE.end();
    }

    private static boolean isPrivate(Member member) {
        return Modifier.isPrivate(member.getModifiers());
    }

    private static String written(Method method) {
        StringBuilder text = new StringBuilder();
        for (Class<?> type : method.getParameterTypes()) {
            text.append(text.length() == 0 ? "" : ", ").append(type.getName());
        }
        return method.getReturnType().getName() + " " + method.getName() + "(" + text + ")";
    }

    private static boolean isNameOfFace(String name) {
        for (String method : FACE) {
            if (method.contains(" " + name + "(")) {
                return true;
            }
        }
        return false;
    }
}
