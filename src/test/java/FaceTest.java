import java.io.IOException;
import java.lang.reflect.Constructor;
import java.lang.reflect.Field;
import java.lang.reflect.Method;
import java.lang.reflect.Modifier;
import java.util.Set;
import java.util.TreeSet;

/** The class has the document's face, and no other member that others can see. */
public final class FaceTest {
    /** A constructor, 10 constants, and a method for each promise but the first. */
    private static final int MEMBERS = 46;

    public static void main(String[] args) throws IllegalAccessException, IOException {
        Set<String> seen = new TreeSet<>();
        Set<String> publicNames = new TreeSet<>();
        for (Constructor<?> constructor : MailPriory.class.getDeclaredConstructors()) {
            if (!Modifier.isPrivate(constructor.getModifiers())) {
                seen.add("MailPriory(" + names(constructor.getParameterTypes()) + ")");
            }
        }
        for (Field field : MailPriory.class.getDeclaredFields()) {
            if (!Modifier.isPrivate(field.getModifiers()) && !field.isSynthetic()) {
                int mask = Modifier.PUBLIC | Modifier.STATIC | Modifier.FINAL;
                Check.equal("modifiers of " + field.getName(), field.getModifiers(), mask);
                seen.add(field.getName() + " = " + field.getInt(null));
            }
        }
        for (Method method : MailPriory.class.getDeclaredMethods()) {
            if (!Modifier.isPrivate(method.getModifiers()) && !method.isSynthetic()) {
                Check.equal("modifiers of " + method.getName(),
                        method.getModifiers(), Modifier.PUBLIC);
                seen.add(told(method));
                publicNames.add(method.getName());
            }
        }
        compare(seen);
        for (Method method : MailPriory.class.getDeclaredMethods()) {
            if (Modifier.isPrivate(method.getModifiers())) {
                Check.isTrue("no public method is named " + method.getName() + " too",
                        !publicNames.contains(method.getName()));
            }
        }
        Check.equal("modifiers of the class", MailPriory.class.getModifiers(),
                Modifier.PUBLIC | Modifier.FINAL);
        Check.end();
    }

    private static void compare(Set<String> seen) throws IOException {
        Set<String> due = Document.face();
        Check.equal("members that the document tells", due.size(), MEMBERS);
        for (String member : due) {
            Check.isTrue("the class has " + member, seen.contains(member));
        }
        for (String member : seen) {
            Check.isTrue("the document has " + member, due.contains(member));
        }
    }

    private static String told(Method method) {
        String thrown = method.getExceptionTypes().length == 0
                ? "" : " throws " + names(method.getExceptionTypes());
        return method.getReturnType().getSimpleName() + " " + method.getName()
                + "(" + names(method.getParameterTypes()) + ")" + thrown;
    }

    private static String names(Class<?>[] types) {
        StringBuilder names = new StringBuilder();
        for (Class<?> type : types) {
            names.append(names.length() == 0 ? "" : ",").append(type.getSimpleName());
        }
        return names.toString();
    }
}
