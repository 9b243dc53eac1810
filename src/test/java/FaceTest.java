import java.lang.reflect.Constructor;
import java.lang.reflect.Field;
import java.lang.reflect.Method;
import java.lang.reflect.Modifier;
import java.util.Set;
import java.util.StringJoiner;
import java.util.TreeSet;

/** The class shows the document's face and nothing else (LANGUAGE.md, rules 1 and 5). */
public final class FaceTest {
    private static final String[] FACE = {
        "void rules(int,boolean,int,int,int) NoSuchElementException IllegalArgumentException",
        "void member(int,int,int) NoSuchElementException IllegalArgumentException",
        "boolean leave(int,int) NoSuchElementException",
        "int press(int,int,boolean) NoSuchElementException IllegalStateException",
        "void again(int,int) NoSuchElementException IllegalStateException",
        "void release(int,int) NoSuchElementException IllegalStateException",
        "int unit(int,int,int) NoSuchElementException IllegalStateException UnsupportedOperationException",
        "int messages()",
        "int message(int,int) NoSuchElementException IndexOutOfBoundsException",
        "void carry(int) NoSuchElementException",
        "void twice(int) NoSuchElementException",
        "void drop(int) NoSuchElementException",
        "int run(int) IllegalArgumentException",
        "int tick()",
        "int server(int,int) NoSuchElementException IndexOutOfBoundsException",
        "int waiting(int,int) NoSuchElementException IndexOutOfBoundsException",
        "int relay(int,int) NoSuchElementException IndexOutOfBoundsException",
        "int about(int,int,int) NoSuchElementException IndexOutOfBoundsException",
        "int lost()"};

    public static void main(String[] args) {
        Check check = new Check();
        check.part("face");
        Set<String> seen = new TreeSet<>();
        Set<String> shown = new TreeSet<>();
        Set<String> hidden = new TreeSet<>();
        for (Method m : TalkNet.class.getDeclaredMethods()) {
            (Modifier.isPrivate(m.getModifiers()) ? hidden : shown).add(m.getName());
            if (!Modifier.isPrivate(m.getModifiers())) {
                seen.add(signature(m));
            }
        }
        check.same("methods", seen, new TreeSet<>(Set.of(FACE)));
        hidden.retainAll(shown);
        check.same("private methods with a public one's name", hidden, Set.of());
        check.same("class is public and final", TalkNet.class.getModifiers(), Modifier.PUBLIC | Modifier.FINAL);
        check.same("constructors", TalkNet.class.getDeclaredConstructors().length, 1);
        for (Constructor<?> c : TalkNet.class.getDeclaredConstructors()) {
            check.same("constructor is public", c.getModifiers(), Modifier.PUBLIC);
            check.same("constructor's parameters", c.getParameterCount(), 0);
        }
        for (Field f : TalkNet.class.getDeclaredFields()) {
            check.same(f.getName() + " is private", Modifier.isPrivate(f.getModifiers()), true);
        }
        for (Class<?> inside : TalkNet.class.getDeclaredClasses()) {
            check.same(inside + " is static", Modifier.isStatic(inside.getModifiers()), true);
        }
        check.end();
    }

    private static String signature(Method m) {
        StringJoiner parameters = new StringJoiner(",", "(", ")");
        for (Class<?> type : m.getParameterTypes()) {
            parameters.add(type.getSimpleName());
        }
        StringBuilder text = new StringBuilder(m.getReturnType().getSimpleName() + " " + m.getName() + parameters);
        for (Class<?> type : m.getExceptionTypes()) {
            text.append(" ").append(type.getSimpleName());
        }
        return text.toString();
    }
}
