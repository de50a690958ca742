import java.lang.reflect.Constructor;
import java.lang.reflect.Member;
import java.lang.reflect.Method;
import java.lang.reflect.Modifier;
import java.util.Arrays;
import java.util.TreeSet;

/** The class has the document's face, and nothing else of it can be seen. */
public final class FaceTest {
    private static final String[] FACE = {
        "void line(int, int, int)", "void route(int, int, int, int, int, int)", "void put(int, int)",
        "int file(int, int)", "int send(int, int)", "int carry(int, int)", "boolean disturb(int, int, int)",
        "boolean serve(int, boolean)", "int time(int)", "int delivered(int)", "int read(int, int, int)",
        "boolean arrived(int, int)", "int channel(int, int, int)", "int count(int, int)"};

    public static void main(String[] args) {
        Check check = new Check();
        TreeSet<String> seen = new TreeSet<>();
        TreeSet<String> publicNames = new TreeSet<>();
        TreeSet<String> privateNames = new TreeSet<>();
        for (Method method : TextNet.class.getDeclaredMethods()) {
            if (isPrivate(method)) {
                privateNames.add(method.getName());
            } else {
                publicNames.add(method.getName());
                seen.add(written(method));
            }
        }
        TreeSet<String> due = new TreeSet<>(Arrays.asList(FACE));
        if (!seen.equals(due)) {
            check.tell("the methods are " + seen + ", due are " + due);
        }
        privateNames.retainAll(publicNames);
        check.due("private methods with a public one's name " + privateNames, privateNames.size(), 0);
        check.due("visible fields", Arrays.stream(TextNet.class.getDeclaredFields()).filter(f -> !isPrivate(f)).count(), 0);
        Constructor<?>[] constructors = TextNet.class.getDeclaredConstructors();
        check.due("constructors", constructors.length, 1);
        check.due("a constructor's parameters", constructors[0].getParameterCount(), 0);
        check.due("the class is public and final", TextNet.class.getModifiers(), Modifier.PUBLIC | Modifier.FINAL);
        check.end();
    }

    private static boolean isPrivate(Member member) {
        return Modifier.isPrivate(member.getModifiers());
    }

    private static String written(Method method) {
        StringBuilder text = new StringBuilder();
        if (method.getModifiers() != Modifier.PUBLIC) {
            text.append("not just public: ");
        }
        text.append(method.getReturnType().getSimpleName()).append(' ').append(method.getName()).append('(');
        String gap = "";
        for (Class<?> type : method.getParameterTypes()) {
            text.append(gap).append(type.getSimpleName());
            gap = ", ";
        }
        return text.append(')').toString();
    }
}
