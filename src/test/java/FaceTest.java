import java.lang.reflect.Constructor;
import java.lang.reflect.Field;
import java.lang.reflect.Member;
import java.lang.reflect.Method;
import java.lang.reflect.Modifier;
import java.util.Collections;
import java.util.Set;
import java.util.TreeSet;

/** The public face: what the document gives, and nothing else that others see. */
public final class FaceTest {
    private static final Set<String> DUE = Set.of(
            "public static final int ProducerBook.NONE",
            "public static final int ProducerBook.FENCED",
            "public static final int ProducerBook.GAP",
            "public ProducerBook()",
            "public int ProducerBook.offer(long,int,int,int)"
                    + " throws java.lang.IllegalArgumentException,java.lang.IllegalStateException",
            "public int ProducerBook.offers(int,long,int,int,int)"
                    + " throws java.lang.IllegalArgumentException,java.lang.IllegalStateException",
            "public int ProducerBook.drop(int) throws java.lang.IllegalArgumentException",
            "public int ProducerBook.thin()",
            "public int ProducerBook.known(long,int) throws java.lang.IllegalArgumentException",
            "public long ProducerBook.batch(int,int) throws java.lang.IllegalArgumentException",
            "public int ProducerBook.count(int) throws java.lang.IllegalArgumentException");

    public static void main(String[] args) {
        Set<String> seen = new TreeSet<>();
        for (Field field : ProducerBook.class.getDeclaredFields()) {
            note(seen, field, field.toString());
        }
        for (Constructor<?> constructor : ProducerBook.class.getDeclaredConstructors()) {
            note(seen, constructor, constructor.toString());
        }
        for (Method method : ProducerBook.class.getDeclaredMethods()) {
            note(seen, method, method.toString());
        }
        if (!seen.equals(DUE)) {
            System.out.println("the face is " + seen + ", due is " + new TreeSet<>(DUE));
            System.exit(1);
        }
        if (!isPublicAndFinal() || !classesInsideAreHidden() || !namesAreApart()) {
            System.out.println("the class is not public and final without a package, or a class"
                    + " inside it is seen or not static, or a private method has a public one's name");
            System.exit(1);
        }
        System.out.println("the face is as due");
    }

    private static boolean isPublicAndFinal() {
        int modifiers = ProducerBook.class.getModifiers();
        return Modifier.isPublic(modifiers) && Modifier.isFinal(modifiers)
                && ProducerBook.class.getPackageName().isEmpty()
                && ProducerBook.class.getSuperclass() == Object.class
                && ProducerBook.class.getInterfaces().length == 0;
    }

    private static boolean classesInsideAreHidden() {
        for (Class<?> inside : ProducerBook.class.getDeclaredClasses()) {
            int modifiers = inside.getModifiers();
            if (Modifier.isPublic(modifiers) || Modifier.isProtected(modifiers)
                    || !Modifier.isStatic(modifiers)) {
                return false;
            }
        }
        return true;
    }

    private static boolean namesAreApart() {
        Set<String> ofPublic = new TreeSet<>();
        Set<String> ofPrivate = new TreeSet<>();
        for (Method method : ProducerBook.class.getDeclaredMethods()) {
            boolean isPublic = Modifier.isPublic(method.getModifiers());
            (isPublic ? ofPublic : ofPrivate).add(method.getName());
        }
        return Collections.disjoint(ofPublic, ofPrivate);
    }

    private static void note(Set<String> seen, Member member, String text) {
        if (!Modifier.isPrivate(member.getModifiers())) {
            seen.add(text);
        }
    }
}
