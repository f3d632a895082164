import java.lang.reflect.Constructor;
import java.lang.reflect.Field;
import java.lang.reflect.Method;
import java.lang.reflect.Modifier;
import java.util.ArrayList;
import java.util.Arrays;
import java.util.List;
import java.util.Set;
import java.util.TreeSet;

/** The public face of the document and rule 1 of the language: nothing less, nothing more. */
public final class FaceTest {
    static final Set<String> METHODS = Set.of(
            "int create()", "int destroy(int)", "int alloc(int)", "int free(int,int)",
            "int grant(int,int,int,int)", "int end(int,int)", "int map(int,int,int,boolean)",
            "int unmap(int,int)", "int give(int,int,int,int)", "int store(int,int,int,int)",
            "long load(int,int,int)", "int open(int,int)", "int bind(int,int,int)", "int send(int,int)",
            "int next(int)", "int attach(int,int)", "int submit(int,boolean,int,int)", "int serve(int)",
            "long reap(int)", "long look(int,int,int)");

    private static final List<String> FOUND = new ArrayList<>();

    private FaceTest() {
    }

    public static void main(String[] args) throws IllegalAccessException {
        expect(Modifier.toString(GrantRing.class.getModifiers()).equals("public final"), "the class is public final");
        checkConstants();
        checkConstructor();
        checkMethods();
        checkNestedClasses();
        FOUND.forEach(System.out::println);
        System.out.println(FOUND.isEmpty() ? "the face is as due" : "the face is not as due");
        if (!FOUND.isEmpty()) {
            System.exit(1);
        }
    }

    private static void expect(boolean holds, String what) {
        if (!holds) {
            FOUND.add("not so: " + what);
        }
    }

    private static void checkConstants() throws IllegalAccessException {
        Set<String> seen = new TreeSet<>();
        for (Field field : GrantRing.class.getDeclaredFields()) {
            int modifiers = field.getModifiers();
            if (Modifier.isPrivate(modifiers)) {
                expect(!Modifier.isStatic(modifiers) || Modifier.isFinal(modifiers), field + " is final");
                continue;
            }
            expect(Modifier.toString(modifiers).equals("public static final"), field + " is a public constant");
            expect(field.getType() == int.class, field + " is an int");
            expect(Integer.valueOf(field.getInt(null)).equals(Calls.CODES.get(field.getName())), field + "'s value");
            seen.add(field.getName());
        }
        expect(seen.equals(Calls.CODES.keySet()), "the constants are those of the document: " + seen);
    }

    private static void checkConstructor() {
        Constructor<?>[] all = GrantRing.class.getDeclaredConstructors();
        expect(all.length == 1 && all[0].getParameterCount() == 0 && Modifier.isPublic(all[0].getModifiers()),
                "there is one constructor, public and without parameters");
    }

    private static void checkMethods() {
        Set<String> publicOnes = new TreeSet<>();
        for (Method method : GrantRing.class.getDeclaredMethods()) {
            if (Modifier.isPublic(method.getModifiers())) {
                expect(!Modifier.isStatic(method.getModifiers()), method + " is not static");
                publicOnes.add(signature(method));
            } else {
                checkPrivate(method);
            }
        }
        expect(publicOnes.equals(METHODS), "the methods are those of the document: " + publicOnes);
    }

    private static void checkPrivate(Method method) {
        expect(Modifier.isPrivate(method.getModifiers()), method + " is private");
        expect(!isPublicName(method.getName()), method + " bears no public name");
        expect(method.getParameterCount() <= 7, method + " has at most seven parameters");
    }

    private static boolean isPublicName(String name) {
        return Arrays.asList(Calls.NAMES).contains(name);
    }

    private static String signature(Method method) {
        List<String> types = new ArrayList<>();
        for (Class<?> type : method.getParameterTypes()) {
            types.add(type.getName());
        }
        return method.getReturnType().getName() + " " + method.getName() + "(" + String.join(",", types) + ")";
    }

    private static void checkNestedClasses() {
        for (Class<?> nested : GrantRing.class.getDeclaredClasses()) {
            int modifiers = nested.getModifiers();
            expect(Modifier.isStatic(modifiers), nested + " is static");
            expect(!Modifier.isPublic(modifiers) && !Modifier.isProtected(modifiers), nested + " is not public");
            for (Method method : nested.getDeclaredMethods()) {
                expect(!isPublicName(method.getName()), method + " bears no public name");
            }
        }
    }
}
