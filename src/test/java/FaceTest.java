import java.lang.reflect.Constructor;
import java.lang.reflect.Field;
import java.lang.reflect.Member;
import java.lang.reflect.Method;
import java.lang.reflect.Modifier;
import java.util.Set;
import java.util.TreeSet;

/** The public face: what the document gives, and nothing else that others see. */
public final class FaceTest {
    private static final Set<String> DUE = Set.of(
            "public static final int ProducerBook.NONE",
            "public static final int ProducerBook.FENCED",
            "public static final int ProducerBook.GAP",
            "public ProducerBook()",
            "public int ProducerBook.offer(long,int,int,int)"
                    + " throws java.lang.IllegalArgumentException,java.lang.IllegalStateException",
            "public int ProducerBook.offers(int,long,int,int,int)"
                    + " throws java.lang.IllegalArgumentException,java.lang.IllegalStateException",
            "public int ProducerBook.drop(int) throws java.lang.IllegalArgumentException",
            "public int ProducerBook.thin()",
            "public int ProducerBook.known(long,int) throws java.lang.IllegalArgumentException",
            "public long ProducerBook.batch(int,int) throws java.lang.IllegalArgumentException",
            "public int ProducerBook.count(int) throws java.lang.IllegalArgumentException");

    public static void main(String[] args) {
        Set<String> seen = new TreeSet<>();
        for (Field field : ProducerBook.class.getDeclaredFields()) {
            note(seen, field, field.toString());
        }
        for (Constructor<?> constructor : ProducerBook.class.getDeclaredConstructors()) {
            note(seen, constructor, constructor.toString());
        }
        for (Method method : ProducerBook.class.getDeclaredMethods()) {
            note(seen, method, method.toString());
        }
        boolean isFinal = Modifier.isFinal(ProducerBook.class.getModifiers());
        if (!isFinal || !seen.equals(DUE)) {
            System.out.println("the face is " + seen + ", due is " + new TreeSet<>(DUE));
            System.exit(1);
        }
        System.out.println("the face is as due");
    }

    private static void note(Set<String> seen, Member member, String text) {
        if (!Modifier.isPrivate(member.getModifiers())) {
            seen.add(text);
        }
    }
}
