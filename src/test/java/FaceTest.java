import java.lang.reflect.Constructor;
import java.lang.reflect.Field;
import java.lang.reflect.Method;
import java.lang.reflect.Modifier;
import java.util.Arrays;
import java.util.Set;
import java.util.TreeSet;

/** The class has the document's face, and no other member that others can see. */
public final class FaceTest {
    private static final String X = " throws IndexOutOfBoundsException";
    private static final String A = " IllegalArgumentException";
    private static final String S = " IllegalStateException";

    private static final String[] FACE = {
        "new()",
        "NONE = -1", "DIRECT = 0", "DIGEST = 1",
        "PASSED = 0", "HELD = 1", "LAPSED = 2", "CONDEMNED = 3",
        "BARRED = 0", "STRANGER = 1", "SCORE = 2",
        "int list(int)" + X + S,
        "int join(int,int,int)" + X + A + S,
        "int leave(int,int)" + X + S,
        "int mode(int,int,int)" + X + A + S,
        "boolean nest(int,int)" + X + A,
        "int rules(int,int,int,boolean)" + X + A,
        "boolean bar(int,int)" + X,
        "int word(int,int)" + X + A,
        "int reaches(int)" + X,
        "int reachesByMembers(int)" + X,
        "int modeOf(int,int)" + X,
        "int send(int,int,int,int)" + X + A + S,
        "int approve(int)" + X + S,
        "int refuse(int)" + X + S,
        "int appeal(int)" + X + S,
        "int vote(int,int,boolean)" + X + S,
        "int state(int)" + X,
        "int cause(int)" + X,
        "int score(int)" + X,
        "int lapses(int)" + X,
        "int jurors(int)" + X,
        "int reached(int)" + X,
        "int mails()",
        "int held()",
        "int weight(int)" + X,
        "int judged(int)" + X,
        "int bounces(int)" + X,
        "int box(int)" + X,
        "int mailAt(int,int)" + X,
        "int read(int)" + X,
        "int size(int,int)" + X + A,
        "int digest(int,int,int)" + X + A + " NoSuchElementException",
        "int edition(int,int)" + X + A,
        "int readers(int,int)" + X + A,
        "int pass(int) throws" + A + S,
    };

    public static void main(String[] args) throws IllegalAccessException {
        Set<String> seen = new TreeSet<>();
        Set<String> publicNames = new TreeSet<>();
        for (Constructor<?> constructor : MailPriory.class.getDeclaredConstructors()) {
            if (!Modifier.isPrivate(constructor.getModifiers())) {
                seen.add("new(" + names(constructor.getParameterTypes()) + ")");
            }
        }
        for (Field field : MailPriory.class.getDeclaredFields()) {
            if (!Modifier.isPrivate(field.getModifiers()) && !field.isSynthetic()) {
                int mask = Modifier.PUBLIC | Modifier.STATIC | Modifier.FINAL;
                Check.equal("modifiers of " + field.getName(), field.getModifiers(), mask);
                seen.add(field.getName() + " = " + field.getInt(null));
            }
        }
        for (Method method : MailPriory.class.getDeclaredMethods()) {
            if (!Modifier.isPrivate(method.getModifiers()) && !method.isSynthetic()) {
                Check.equal("modifiers of " + method.getName(),
                        method.getModifiers(), Modifier.PUBLIC);
                seen.add(told(method));
                publicNames.add(method.getName());
            }
        }
        compare(seen);
        for (Method method : MailPriory.class.getDeclaredMethods()) {
            if (Modifier.isPrivate(method.getModifiers())) {
                Check.isTrue("no public method is named " + method.getName() + " too",
                        !publicNames.contains(method.getName()));
            }
        }
        Check.equal("modifiers of the class", MailPriory.class.getModifiers(),
                Modifier.PUBLIC | Modifier.FINAL);
        Check.end();
    }

    private static void compare(Set<String> seen) {
        Set<String> due = new TreeSet<>(Arrays.asList(FACE));
        for (String member : due) {
            Check.isTrue("the class has " + member, seen.contains(member));
        }
        for (String member : seen) {
            Check.isTrue("the document has " + member, due.contains(member));
        }
    }

    private static String told(Method method) {
        String thrown = method.getExceptionTypes().length == 0
                ? "" : " throws " + names(method.getExceptionTypes()).replace(",", " ");
        return method.getReturnType().getSimpleName() + " " + method.getName()
                + "(" + names(method.getParameterTypes()) + ")" + thrown;
    }

    private static String names(Class<?>[] types) {
        StringBuilder names = new StringBuilder();
        for (Class<?> type : types) {
            names.append(names.length() == 0 ? "" : ",").append(type.getSimpleName());
        }
        return names.toString();
    }
}
