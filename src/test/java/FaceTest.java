import java.lang.reflect.Constructor;
import java.lang.reflect.Field;
import java.lang.reflect.Method;
import java.lang.reflect.Modifier;
import java.util.Set;
import java.util.TreeSet;

/** The public face, as the document and the language rules 1 and 5 have it. */
public final class FaceTest {
    private static final String A = " throws java.lang.IllegalArgumentException";
    private static final String S = " throws java.lang.IllegalStateException";
    private static final String AS = A + ",java.lang.IllegalStateException";
    private static final String AB = A + ",java.lang.IndexOutOfBoundsException";
    private static final String AN = A + ",java.util.NoSuchElementException";
    private static final String[] METHODS = {
        "int reference(long,int)" + AS, "void draft(int,int)" + A, "int allele(long,int)" + AS,
        "void depth(int,int,int)" + A, "void genotype(int,int,int,boolean)" + A,
        "void likelihood(int,int,int)" + A, "int add()" + S, "void remove(int)" + A,
        "int normalise(int)" + A, "int split(int)" + AS,
        "void join(int)" + AN + ",java.lang.IllegalStateException", "int written(int,int)" + AB,
        "void type(long,int)" + AS, "int read()" + AS, "int records()", "int about(int,int)" + A,
        "int base(int,int,int)" + AB, "int found(int,int)" + A, "float mean(int,int)" + AN,
    };

    private FaceTest() {
    }

    public static void main(String[] args) {
        Check.due("public and final", VariantKit.class.getModifiers(), Modifier.PUBLIC | Modifier.FINAL);
        methods();
        constructors();
        fields();
        nestedClasses();
        Check.end();
    }

    private static void methods() {
        Set<String> want = new TreeSet<>(Set.of(METHODS));
        Set<String> got = new TreeSet<>();
        Set<String> names = new TreeSet<>();
        for (Method method : VariantKit.class.getDeclaredMethods()) {
            if (!Modifier.isPrivate(method.getModifiers())) {
                got.add(method.toGenericString().replace("public ", "").replace("VariantKit.", ""));
                names.add(method.getName());
            }
        }
        Check.due("the methods", got.toString(), want.toString());
        for (Class<?> nested : VariantKit.class.getDeclaredClasses()) {
            for (Method method : nested.getDeclaredMethods()) {
                if (names.contains(method.getName())) {
                    Check.complain(nested + " has a method of the face's name " + method.getName());
                }
            }
        }
        for (Method method : VariantKit.class.getDeclaredMethods()) {
            if (Modifier.isPrivate(method.getModifiers()) && names.contains(method.getName())) {
                Check.complain("a private method of the face's name " + method.getName());
            }
        }
    }

    private static void constructors() {
        Constructor<?>[] all = VariantKit.class.getDeclaredConstructors();
        Check.due("one constructor", all.length, 1);
        Check.due("the constructor", all[0].toGenericString(), "public VariantKit()");
    }

    private static void fields() {
        for (Field field : VariantKit.class.getDeclaredFields()) {
            int modifiers = field.getModifiers();
            if (!Modifier.isPrivate(modifiers)) {
                Check.complain(field + " is not private");
            }
            if (Modifier.isStatic(modifiers) && !Modifier.isFinal(modifiers)) {
                Check.complain(field + " is static and not final");
            }
        }
    }

    private static void nestedClasses() {
        for (Class<?> nested : VariantKit.class.getDeclaredClasses()) {
            int modifiers = nested.getModifiers();
            if (!Modifier.isStatic(modifiers) || Modifier.isPublic(modifiers)
                    || Modifier.isProtected(modifiers)) {
                Check.complain(nested + " is not as rule 1 has it");
            }
        }
    }
}
