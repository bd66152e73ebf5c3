import java.lang.reflect.Constructor;
import java.lang.reflect.Executable;
import java.lang.reflect.Field;
import java.lang.reflect.Method;
import java.lang.reflect.Modifier;
import java.util.Arrays;
import java.util.Set;
import java.util.TreeSet;
import java.util.stream.Collectors;

/** The members of the class are exactly those of the document. */
public final class PublicFaceTest {
    private static final Set<String> FACE = Set.of(
            "int up(int) IllegalArgumentException IllegalStateException",
            "void down(int) IllegalArgumentException IllegalStateException",
            "int digit(int,int) IllegalArgumentException",
            "int camp(int) IllegalArgumentException IllegalStateException",
            "int park(int,int) IllegalArgumentException IllegalStateException",
            "int transfer(int,int) IllegalArgumentException IllegalStateException",
            "int tick(int) IllegalArgumentException",
            "int group(int,int,int) IllegalArgumentException IllegalStateException",
            "void slot(int,int,boolean) IllegalArgumentException IllegalStateException",
            "int carries(int,int) IllegalArgumentException",
            "int line(int,int) IllegalArgumentException",
            "int count(int) IllegalArgumentException",
            "int book(int,int) IllegalArgumentException IndexOutOfBoundsException");

    public static void main(String[] args) {
        Check.sentence("The public face, a public final class", PublicFaceTest::theClass);
        Check.sentence("The public face, its constructor", PublicFaceTest::constructor);
        Check.sentence("The public face, its methods", PublicFaceTest::methods);
        Check.sentence("The public face, no other member", PublicFaceTest::noOtherMember);
        Check.end();
    }

    private static void theClass() {
        int modifiers = ExchangeDesk.class.getModifiers();
        Check.holds("public", Modifier.isPublic(modifiers));
        Check.holds("final", Modifier.isFinal(modifiers));
    }

    private static void constructor() {
        Constructor<?>[] all = ExchangeDesk.class.getDeclaredConstructors();
        Check.due("constructors", all.length, 1);
        Check.holds("public", Modifier.isPublic(all[0].getModifiers()));
        Check.due("parameters", all[0].getParameterCount(), 0);
        Check.due("exceptions", all[0].getExceptionTypes().length, 0);
    }

    private static void methods() {
        Set<String> open = new TreeSet<>();
        for (Method method : ExchangeDesk.class.getDeclaredMethods()) {
            if (!Modifier.isPrivate(method.getModifiers())) {
                Check.holds(method + " public", Modifier.isPublic(method.getModifiers()));
                Check.holds(method + " not static", !Modifier.isStatic(method.getModifiers()));
                open.add(method.getReturnType() + " " + method.getName() + signature(method));
            }
        }
        Check.holds("exactly the document's methods: " + open, open.equals(new TreeSet<>(FACE)));
    }

    private static String signature(Executable method) {
        return Arrays.stream(method.getParameterTypes()).map(Class::getSimpleName)
                .collect(Collectors.joining(",", "(", ")"))
                + Arrays.stream(method.getExceptionTypes()).map(one -> " " + one.getSimpleName())
                .collect(Collectors.joining());
    }

    private static void noOtherMember() {
        for (Field field : ExchangeDesk.class.getDeclaredFields()) {
            Check.holds(field + " private", Modifier.isPrivate(field.getModifiers()));
        }
    }
}
