import java.lang.reflect.Constructor;
import java.lang.reflect.Field;
import java.lang.reflect.Method;
import java.lang.reflect.Modifier;
import java.util.Arrays;
import java.util.Set;
import java.util.TreeSet;

/** The class shows the document's face and nothing else. */
public final class FaceTest {

    private static final Check CHECK = new Check("FaceTest");
    private static final String[] FACE = {
        "int atom(int,int,int) OAS", "int dropAtom(int,int) O", "int base(int,int,int,int,int) OAS",
        "int joint(int,int,int) O", "int less(int,int,int,int) OA", "int form(int,int,int,int) OAS",
        "int ordinal(int,int) O", "int seam(int,int,int,int) OS", "int empty(int) O", "int say(int,int,int) OA",
        "int sayOrdinal(int,int) OA", "int sayFraction(int,int,int,int) OA", "int said(int) O", "int hear(int) OS",
        "int hearSaid() ", "int forget() ", "int fits(int,int,int) OA", "int fit(int,int,int,int) OA",
        "int askWord(int,int,int) OA", "int gap(int,int) OA", "int clash(int,int,int) OA", "int example(int) AS",
        "int dropExamples() ", "int settings(int,int,int) O", "int learn(int,int,int) OS",
        "int askNumber(int,int,int,int) OA", "int baseTold(int,int,int) OA", "int numberOf(int,int) O",
        "int cord(int,int) OA", "long count(long) ", "int knots(int) O", "long lost() ", "long shown() ",
    };

    public static void main(String[] args) {
        face();
        CHECK.end();
    }

    private static void face() {
        CHECK.holds("public and final", Modifier.isPublic(NumeralBabel.class.getModifiers())
                && Modifier.isFinal(NumeralBabel.class.getModifiers()));
        Set<String> want = new TreeSet<>(Arrays.asList(FACE));
        Set<String> got = new TreeSet<>();
        Set<String> publicNames = new TreeSet<>();
        for (Method method : NumeralBabel.class.getDeclaredMethods()) {
            if (!Modifier.isPrivate(method.getModifiers())) {
                got.add(described(method));
                publicNames.add(method.getName());
            }
        }
        CHECK.judge("the face", want.toString(), got.toString());
        for (Method method : NumeralBabel.class.getDeclaredMethods()) {
            CHECK.holds("no private method named " + method.getName(),
                    !Modifier.isPrivate(method.getModifiers()) || !publicNames.contains(method.getName()));
        }
        Constructor<?>[] constructors = NumeralBabel.class.getDeclaredConstructors();
        CHECK.due("constructors", 1, constructors.length);
        CHECK.holds("a public one without arguments", Modifier.isPublic(constructors[0].getModifiers())
                && constructors[0].getParameterCount() == 0);
        for (Field field : NumeralBabel.class.getDeclaredFields()) {
            CHECK.holds("private field " + field.getName(), Modifier.isPrivate(field.getModifiers()));
            CHECK.holds("final if static: " + field.getName(),
                    !Modifier.isStatic(field.getModifiers()) || Modifier.isFinal(field.getModifiers()));
        }
        CHECK.holds("at most 12 classes", NumeralBabel.class.getDeclaredClasses().length < 12);
    }

    private static String described(Method method) {
        StringBuilder text = new StringBuilder(method.getReturnType() + " " + method.getName() + "(");
        for (Class<?> type : method.getParameterTypes()) {
            text.append(text.charAt(text.length() - 1) == '(' ? "" : ",").append(type);
        }
        text.append(") ");
        for (Class<?> thrown : method.getExceptionTypes()) {
            text.append(thrown == Check.OUT ? "O" : thrown == Check.ARGUMENT ? "A" : thrown == Check.STATE ? "S" : "?");
        }
        return text.toString();
    }
}
