import java.lang.reflect.Constructor;
import java.lang.reflect.Member;
import java.lang.reflect.Method;
import java.lang.reflect.Modifier;
import java.util.Arrays;
import java.util.TreeSet;

/** The public face: what the document lists, and nothing else that a caller could see. */
public final class FaceTest {
    private static int countSeen(Member[] members) {
        int seen = 0;
        for (Member member : members) {
            if (!Modifier.isPrivate(member.getModifiers()) && !member.isSynthetic()) {
                seen++;
            }
        }
        return seen;
    }

    public static void main(String[] args) {
        Class<?> face = TurnThreads.class;
        Check.due("public final", face.getModifiers(), Modifier.PUBLIC | Modifier.FINAL);
        Check.due("fields that are seen", countSeen(face.getDeclaredFields()), 0);

        Constructor<?>[] made = face.getDeclaredConstructors();
        Check.due("constructors", made.length, 1);
        Check.due("a public constructor without arguments",
                Modifier.isPublic(made[0].getModifiers()) ? made[0].getParameterCount() : -1, 0);

        TreeSet<String> seen = new TreeSet<>();
        for (Method method : face.getDeclaredMethods()) {
            if (!Modifier.isPrivate(method.getModifiers()) && !method.isSynthetic()) {
                seen.add(method.toString());
            }
        }
        TreeSet<String> due = new TreeSet<>(Arrays.asList(
                "public int TurnThreads.program()",
                "public int TurnThreads.act(int,int)",
                "public int TurnThreads.begin(int,int,int)",
                "public int TurnThreads.fill(int,int)",
                "public int TurnThreads.step(int)",
                "public int TurnThreads.told(int)",
                "public int TurnThreads.thread(int,int)",
                "public int TurnThreads.queued(int)",
                "public int TurnThreads.box(int,int)",
                "public int TurnThreads.trace(int,int)",
                "public int TurnThreads.share(int) throws java.lang.ArithmeticException"));
        Check.due("methods " + seen + ", due " + due, seen.equals(due) ? 1 : 0, 1);
        Check.end();
    }
}
