import java.lang.reflect.Constructor;
import java.lang.reflect.Executable;
import java.lang.reflect.Field;
import java.lang.reflect.Member;
import java.lang.reflect.Method;
import java.lang.reflect.Modifier;
import java.util.Arrays;
import java.util.HashSet;
import java.util.Set;
import java.util.TreeSet;

/** The public face of the class: what the document lists, and nothing else. */
public final class FaceTest {
    private static final String BOUNDS = "IndexOutOfBoundsException";
    private static final String ARGUMENT = "IllegalArgumentException";
    private static final String STATE = "IllegalStateException";

    private static final String CONSTANT = "public static final int NONE";

    private static final String[] FACE = {
        "public CrossingPosts()",
        "public int addHoliday(int, int) throws " + ARGUMENT + ", " + STATE,
        "public int addPost(int, int) throws " + ARGUMENT + ", " + STATE,
        "public int setNeeds(int, int) throws " + BOUNDS + ", " + ARGUMENT,
        "public int addGuard(int, int, int) throws " + BOUNDS + ", " + ARGUMENT + ", " + STATE,
        "public int setPost(int, int) throws " + BOUNDS + ", " + STATE,
        "public int sick(int, int) throws " + BOUNDS + ", " + ARGUMENT,
        "public int complain(int) throws " + BOUNDS + ", " + STATE,
        "public int step() throws " + STATE,
        "public int pass(int) throws " + ARGUMENT + ", " + STATE,
        "public int post(int, int) throws " + BOUNDS + ", " + ARGUMENT,
        "public int guard(int, int) throws " + BOUNDS + ", " + ARGUMENT,
        "public int value(int) throws " + ARGUMENT,
        "public int holiday(int, boolean) throws " + BOUNDS,
        "public int needed(int, int) throws " + ARGUMENT,
        "public int open(int, int) throws " + ARGUMENT,
        "public int standing(int, int, int) throws " + BOUNDS + ", " + ARGUMENT,
        "public int best(int, int, int) throws " + ARGUMENT,
        "public int missed(int, int) throws " + BOUNDS + ", " + ARGUMENT,
        "public int daysToOpen()",
        "public int bestHome(int) throws " + ARGUMENT + ", " + STATE,
        "public double filled()",
        "public int append(int) throws " + ARGUMENT + ", " + STATE,
        "public int clearText()",
        "public int carryOut()",
        "public int undo() throws " + STATE,
        "public long digest()",
    };

    private static String names(Class<?>[] types) {
        StringBuilder out = new StringBuilder();
        for (Class<?> type : types) {
            if (out.length() > 0) out.append(", ");
            out.append(type.getSimpleName());
        }
        return out.toString();
    }

    private static String told(Executable member) {
        StringBuilder out = new StringBuilder(Modifier.toString(member.getModifiers())).append(' ');
        if (member instanceof Method) {
            out.append(((Method) member).getReturnType().getSimpleName()).append(' ').append(member.getName());
        } else {
            out.append("CrossingPosts");
        }
        out.append('(').append(names(member.getParameterTypes())).append(')');
        if (member.getExceptionTypes().length > 0) {
            out.append(" throws ").append(names(member.getExceptionTypes()));
        }
        return out.toString();
    }

    private static boolean isOutside(Member member) {
        return !member.isSynthetic() && !Modifier.isPrivate(member.getModifiers());
    }

    public static void main(String[] args) {
        Class<?> face = CrossingPosts.class;
        Set<String> got = new TreeSet<>();
        Set<String> publicNames = new HashSet<>();
        Set<String> wrong = new TreeSet<>();
        for (Constructor<?> c : face.getDeclaredConstructors()) {
            if (isOutside(c)) got.add(told(c));
        }
        for (Method m : face.getDeclaredMethods()) {
            if (isOutside(m)) {
                got.add(told(m));
                publicNames.add(m.getName());
            }
        }
        boolean hasConstant = false;
        for (Field f : face.getDeclaredFields()) {
            if (!isOutside(f)) continue;
            String field = Modifier.toString(f.getModifiers()) + " " + f.getType() + " " + f.getName();
            if (field.equals(CONSTANT)) hasConstant = true;
            else wrong.add("too much: " + field);
        }
        if (!hasConstant) wrong.add("missing: " + CONSTANT);
        Set<String> due = new TreeSet<>(Arrays.asList(FACE));
        for (String line : due) if (!got.contains(line)) wrong.add("missing: " + line);
        for (String line : got) if (!due.contains(line)) wrong.add("too much: " + line);
        for (Method m : face.getDeclaredMethods()) {
            if (!isOutside(m) && publicNames.contains(m.getName())) wrong.add("private " + m.getName());
        }
        for (Class<?> inside : face.getDeclaredClasses()) {
            int modifiers = inside.getModifiers();
            if (Modifier.isPublic(modifiers) || Modifier.isProtected(modifiers) || !Modifier.isStatic(modifiers)) {
                wrong.add("class " + inside.getSimpleName());
            }
            for (Method m : inside.getDeclaredMethods()) {
                boolean isHidden = Modifier.isPrivate(m.getModifiers()) && !m.isSynthetic();
                if (isHidden && publicNames.contains(m.getName())) {
                    wrong.add("private " + inside.getSimpleName() + "." + m.getName());
                }
            }
        }
        if (face.getModifiers() != (Modifier.PUBLIC | Modifier.FINAL)) wrong.add("the class is not public and final");
        for (String line : wrong) System.out.println(line);
        if (!wrong.isEmpty()) System.exit(1);
    }
}
