import java.lang.reflect.Constructor;
import java.lang.reflect.Field;
import java.lang.reflect.Method;
import java.lang.reflect.Modifier;
import java.util.ArrayList;
import java.util.List;
import java.util.Set;
import java.util.TreeSet;

/** The class has the document's face, and no member beside it that others can see. */
public final class FaceTest {
    private static final List<String> FACE = List.of(
            "public int add(long, boolean) throws IllegalArgumentException, IllegalStateException",
            "public boolean mark(int, boolean) throws IndexOutOfBoundsException",
            "public int drop() throws IllegalStateException",
            "public int setCost(int, int) throws IndexOutOfBoundsException, IllegalArgumentException",
            "public int exampleCount()",
            "public long example(int) throws IndexOutOfBoundsException",
            "public boolean isGood(int) throws IndexOutOfBoundsException",
            "public int pieceCount()",
            "public long piece(int) throws IndexOutOfBoundsException",
            "public int look(int) throws IllegalArgumentException",
            "public int kept()",
            "public boolean isFound()",
            "public int nodeCount() throws IllegalStateException",
            "public int kind(int) throws IllegalStateException, IndexOutOfBoundsException",
            "public int part(int, boolean) throws IllegalStateException, IndexOutOfBoundsException",
            "public int textSize() throws IllegalStateException",
            "public int text(int) throws IllegalStateException, IndexOutOfBoundsException",
            "public boolean matches(long) throws IllegalStateException, IllegalArgumentException",
            "public int count(int) throws IllegalStateException, IllegalArgumentException",
            "public long first() throws IllegalStateException",
            "public double share() throws IllegalStateException",
            "public int push(int, int) throws IllegalArgumentException, IllegalStateException",
            "public int wrap(int) throws IllegalArgumentException, IllegalStateException",
            "public int join(int) throws IllegalArgumentException, IllegalStateException",
            "public int take() throws IllegalStateException",
            "public int pop() throws IllegalStateException",
            "public int topCost() throws IllegalStateException",
            "public boolean topMatches(long) throws IllegalStateException, IllegalArgumentException",
            "public int topWrong() throws IllegalStateException",
            "public long digest()");

    public static void main(String[] args) {
        List<String> faults = new ArrayList<>();
        Class<?> face = PatternFinder.class;
        if (face.getModifiers() != (Modifier.PUBLIC | Modifier.FINAL)) {
            faults.add("the class is not public and final alone");
        }
        Set<String> visible = new TreeSet<>();
        Set<String> publicNames = new TreeSet<>();
        for (Method method : face.getDeclaredMethods()) {
            if (!Modifier.isPrivate(method.getModifiers())) {
                visible.add(shown(method));
                publicNames.add(method.getName());
            }
        }
        if (!visible.equals(new TreeSet<>(FACE))) {
            faults.add("the methods are " + visible);
        }
        for (Field field : face.getDeclaredFields()) {
            if (!Modifier.isPrivate(field.getModifiers())) {
                faults.add("a field can be seen: " + field);
            }
        }
        Constructor<?>[] constructors = face.getDeclaredConstructors();
        if (constructors.length != 1 || constructors[0].getParameterCount() != 0
                || !Modifier.isPublic(constructors[0].getModifiers())) {
            faults.add("the constructors are other ones");
        }
        for (Class<?> inside : face.getDeclaredClasses()) {
            checkInside(inside, publicNames, faults);
        }
        for (Method method : face.getDeclaredMethods()) {
            if (Modifier.isPrivate(method.getModifiers()) && publicNames.contains(method.getName())) {
                faults.add("a private method bears a public name: " + method);
            }
        }
        for (String fault : faults) {
            System.out.println("FaceTest: " + fault);
        }
        System.out.println("FaceTest: " + faults.size() + " faults");
        if (!faults.isEmpty()) {
            System.exit(1);
        }
    }

    private static void checkInside(Class<?> inside, Set<String> publicNames, List<String> faults) {
        if (!Modifier.isStatic(inside.getModifiers()) || !Modifier.isPrivate(inside.getModifiers())) {
            faults.add("a class inside is not private and static: " + inside);
        }
        if (inside.getDeclaredFields().length > 30) {
            faults.add("a class inside has too many fields: " + inside);
        }
        for (Method method : inside.getDeclaredMethods()) {
            if (publicNames.contains(method.getName())) {
                faults.add("a method inside bears a public name: " + method);
            }
        }
    }

    private static String shown(Method method) {
        StringBuilder text = new StringBuilder(Modifier.toString(method.getModifiers()));
        text.append(' ').append(method.getReturnType().getSimpleName()).append(' ').append(method.getName());
        text.append(names(method.getParameterTypes(), "(", ")"));
        if (method.getExceptionTypes().length > 0) {
            text.append(names(method.getExceptionTypes(), " throws ", ""));
        }
        return text.toString();
    }

    private static String names(Class<?>[] types, String ahead, String behind) {
        List<String> names = new ArrayList<>();
        for (Class<?> type : types) {
            names.add(type.getSimpleName());
        }
        return ahead + String.join(", ", names) + behind;
    }
}
