import java.lang.reflect.Constructor;
import java.lang.reflect.Field;
import java.lang.reflect.Method;
import java.lang.reflect.Modifier;
import java.util.Set;
import java.util.TreeSet;

/** The class shows the document's face and nothing else. */
public final class FaceTest {
    private static final Set<String> FACE = Set.of(
        "public static final int FatBalance.NONE",
        "public static final int FatBalance.FULL",
        "public FatBalance()",
        "public int FatBalance.lot(long,long,long)",
        "public boolean FatBalance.solids(int,long,long)",
        "public int FatBalance.separate(int,long,long)",
        "public boolean FatBalance.choose(int)",
        "public int FatBalance.standard(long,long,long)",
        "public long FatBalance.share(int,int)",
        "public long FatBalance.yieldOf(int,int,int)",
        "public long FatBalance.loss(int)",
        "public boolean FatBalance.penalty(long,long)",
        "public long FatBalance.pay(int)",
        "public boolean FatBalance.efficiency(long,long,long)",
        "public void FatBalance.clearChosen()");

    public static void main(String[] args) {
        Set<String> seen = new TreeSet<>();
        for (Field field : FatBalance.class.getDeclaredFields()) {
            addIfSeen(seen, field.getModifiers(), field.toString());
        }
        for (Constructor<?> constructor : FatBalance.class.getDeclaredConstructors()) {
            addIfSeen(seen, constructor.getModifiers(), constructor.toString());
        }
        for (Method method : FatBalance.class.getDeclaredMethods()) {
            addIfSeen(seen, method.getModifiers(), method.toString());
        }
        boolean isFinal = Modifier.isFinal(FatBalance.class.getModifiers()) && Modifier.isPublic(FatBalance.class.getModifiers());
        boolean isDue = seen.equals(FACE) && isFinal && FatBalance.NONE == -1 && FatBalance.FULL == -2;
        System.out.println(isDue ? "the face is as due" : "the face is not as due: " + seen);
        if (!isDue) {
            System.exit(1);
        }
    }

    private static void addIfSeen(Set<String> seen, int modifiers, String member) {
        if (!Modifier.isPrivate(modifiers)) {
            seen.add(member);
        }
    }
}
