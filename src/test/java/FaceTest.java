import java.lang.reflect.Constructor;
import java.lang.reflect.Field;
import java.lang.reflect.Method;
import java.lang.reflect.Modifier;
import java.util.Set;
import java.util.TreeSet;

/** The public face: the document's members and no other that could be seen from outside. */
public final class FaceTest {
    private static final String[] FACE = {
        "public static final int AppDesk.NONE",
        "public AppDesk()",
        "public boolean AppDesk.draft(int,int,int)",
        "public boolean AppDesk.word(int)",
        "public boolean AppDesk.part(int,boolean,int,int)",
        "public boolean AppDesk.ask(int)",
        "public boolean AppDesk.declare(int,int)",
        "public int AppDesk.sign()",
        "public void AppDesk.seal(int)",
        "public int AppDesk.install() throws java.lang.IllegalArgumentException,java.lang.IllegalStateException",
        "public boolean AppDesk.remove(int)",
        "public boolean AppDesk.grant(int,int)",
        "public boolean AppDesk.revoke(int,int)",
        "public boolean AppDesk.send(int,int,int)",
        "public int AppDesk.deliver()",
        "public int AppDesk.step() throws java.lang.IllegalStateException",
        "public int AppDesk.app(int,int)",
        "public boolean AppDesk.holds(int,int)",
        "public int AppDesk.kept(int,int)",
        "public int AppDesk.queued()",
    };

    private FaceTest() {
    }

    public static void main(String[] args) {
        Check check = new Check("FaceTest");
        check.same("modifiers of the class", AppDesk.class.getModifiers(), Modifier.PUBLIC | Modifier.FINAL);
        check.same("NONE", AppDesk.NONE, -1);
        Set<String> due = new TreeSet<>(Set.of(FACE));
        Set<String> seen = seenMembers();
        for (String member : due) {
            check.yes("has " + member, seen.contains(member));
        }
        for (String member : seen) {
            check.yes("may have " + member, due.contains(member));
        }
        privateNamesDiffer(check);
        check.end();
    }

    private static Set<String> seenMembers() {
        Set<String> seen = new TreeSet<>();
        for (Field field : AppDesk.class.getDeclaredFields()) {
            addIfSeen(seen, field.getModifiers(), field.toString());
        }
        for (Constructor<?> constructor : AppDesk.class.getDeclaredConstructors()) {
            addIfSeen(seen, constructor.getModifiers(), constructor.toString());
        }
        for (Method method : AppDesk.class.getDeclaredMethods()) {
            addIfSeen(seen, method.getModifiers(), method.toString());
        }
        return seen;
    }

    private static void addIfSeen(Set<String> seen, int modifiers, String member) {
        if (!Modifier.isPrivate(modifiers)) {
            seen.add(member);
        }
    }

    private static void privateNamesDiffer(Check check) {
        for (Method hidden : AppDesk.class.getDeclaredMethods()) {
            for (Method open : AppDesk.class.getDeclaredMethods()) {
                boolean clash = Modifier.isPrivate(hidden.getModifiers())
                    && Modifier.isPublic(open.getModifiers())
                    && hidden.getName().equals(open.getName());
                check.no("a private method has the public name " + open.getName(), clash);
            }
        }
    }
}
