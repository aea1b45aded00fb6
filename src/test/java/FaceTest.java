import java.lang.reflect.Constructor;
import java.lang.reflect.Field;
import java.lang.reflect.Method;
import java.lang.reflect.Modifier;
import java.util.Arrays;
import java.util.TreeSet;

/** The public face, as the document writes it, and nothing beside it. */
final class FaceTest {
    private static final String[] FACE = {
        "boolean clash(int,int) IndexOutOfBoundsException UnsupportedOperationException",
        "boolean isPossible(int,int) IllegalArgumentException",
        "boolean isSound()",
        "boolean isSure(int,int,int,int) IllegalArgumentException NoSuchElementException",
        "boolean isTold(int,int) IllegalArgumentException NoSuchElementException",
        "boolean liesOver(int,int) IndexOutOfBoundsException NoSuchElementException",
        "boolean sign()",
        "char actAt(int) IndexOutOfBoundsException",
        "char winner() NoSuchElementException",
        "double meanTone() ArithmeticException",
        "float coveredShare()",
        "int acts()",
        "int ballot(char,char) IllegalArgumentException IllegalStateException",
        "int boardAt() NoSuchElementException",
        "int comesOff(int,int) IllegalArgumentException NoSuchElementException",
        "int damp(int) IllegalArgumentException",
        "int fill(int,int,int) IndexOutOfBoundsException IllegalArgumentException UnsupportedOperationException IllegalStateException",
        "int glue(int,int) IllegalArgumentException IllegalStateException",
        "int guessAt(int,int,int,int) IllegalArgumentException NoSuchElementException",
        "int guesses(int,int) IllegalArgumentException",
        "int later(int,int) IndexOutOfBoundsException UnsupportedOperationException",
        "int lay(int,int,int,int,int,int) IndexOutOfBoundsException IllegalArgumentException UnsupportedOperationException IllegalStateException",
        "int layerAt(int,int,int,char) IllegalArgumentException NoSuchElementException",
        "int layers(int,int) IllegalArgumentException",
        "int leg(int,int) IllegalArgumentException IllegalStateException",
        "int lend() UnsupportedOperationException IllegalStateException",
        "int light(int) IllegalArgumentException",
        "int likely(int,int,int,int) IllegalArgumentException NoSuchElementException",
        "int note(char,int,int) IllegalArgumentException",
        "int noted(char,int,int) IllegalArgumentException NoSuchElementException",
        "int original(int) IllegalArgumentException",
        "int painter(int,int,int,int) IllegalArgumentException IllegalStateException",
        "int pass(int) IllegalArgumentException IllegalStateException",
        "int retouch(int,int,int,int) IndexOutOfBoundsException IllegalArgumentException UnsupportedOperationException IllegalStateException",
        "int ring(int,boolean) IllegalArgumentException IllegalStateException",
        "int risk()",
        "int scratch(int,int,int) IllegalArgumentException UnsupportedOperationException IllegalStateException",
        "int scratches()",
        "int solvent(int,int) IllegalArgumentException IllegalStateException",
        "int stuff(char,int,int,int,int,int,int,int,boolean) IllegalArgumentException IllegalStateException",
        "int swab(int,int,int,int) IndexOutOfBoundsException IllegalArgumentException UnsupportedOperationException IllegalStateException",
        "int takeBack(int) IndexOutOfBoundsException UnsupportedOperationException",
        "int tested(int) IndexOutOfBoundsException",
        "int threads(int) IllegalArgumentException",
        "int tired(int,int) IllegalArgumentException",
        "int tooYoung(int) IllegalArgumentException NoSuchElementException",
        "int view(char,int,int) IllegalArgumentException",
        "int year()",
        "long checksum()",
    };

    private FaceTest() {
    }

    static void run() {
        TreeSet<String> due = new TreeSet<String>(Arrays.asList(FACE));
        TreeSet<String> found = new TreeSet<String>();
        TreeSet<String> names = new TreeSet<String>();
        for (Method m : Underpaint.class.getDeclaredMethods()) {
            if (Modifier.isPublic(m.getModifiers())) {
                found.add(line(m));
                names.add(m.getName());
            }
        }
        Check.tell(found.equals(due), "face", found.toString(), due.toString());
        for (Method m : Underpaint.class.getDeclaredMethods()) {
            boolean isFace = Modifier.isPublic(m.getModifiers());
            Check.yes("face: " + m + " is public or private", isFace || Modifier.isPrivate(m.getModifiers()));
            Check.no("face: " + m + " bears a public name", !isFace && names.contains(m.getName()));
        }
        for (Field f : Underpaint.class.getDeclaredFields()) {
            Check.yes("face: field " + f + " is private", Modifier.isPrivate(f.getModifiers()));
        }
        Constructor<?>[] makers = Underpaint.class.getDeclaredConstructors();
        Check.yes("face: one public constructor", makers.length == 1 && Modifier.isPublic(makers[0].getModifiers())
            && makers[0].getParameterCount() == 0);
        Check.yes("face: final", Modifier.isFinal(Underpaint.class.getModifiers()));
    }

    private static String line(Method m) {
        StringBuilder s = new StringBuilder();
        s.append(m.getReturnType().getName()).append(' ').append(m.getName()).append('(');
        for (int i = 0; i < m.getParameterCount(); i++) {
            s.append(i > 0 ? "," : "").append(m.getParameterTypes()[i].getName());
        }
        s.append(')');
        for (Class<?> c : m.getExceptionTypes()) {
            s.append(' ').append(c.getSimpleName());
        }
        return s.toString();
    }
}
