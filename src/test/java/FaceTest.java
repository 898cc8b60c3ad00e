import java.lang.reflect.Constructor;
import java.lang.reflect.Field;
import java.lang.reflect.Method;
import java.lang.reflect.Modifier;
import java.util.Set;
import java.util.TreeSet;

/** The class shows the document's face, and no other member that is not private. */
public final class FaceTest {
    private static final Set<String> DUE = Set.of(
        "public static final int PostDrawer.NONE",
        "public static final int PostDrawer.OUTSIDE",
        "public static final int PostDrawer.STATE",
        "public static final int PostDrawer.ROOM",
        "public PostDrawer(int)",
        "public long PostDrawer.seed(long)",
        "public int PostDrawer.draw(int,int)",
        "public int PostDrawer.part(int,int)",
        "public int PostDrawer.point(int,int,int)",
        "public int PostDrawer.verdict(int,boolean)",
        "public int PostDrawer.shorter()",
        "public int PostDrawer.left(int)",
        "public boolean PostDrawer.minimal()",
        "public boolean PostDrawer.faultless(int)",
        "public boolean PostDrawer.same(long,int,int)");

    public static void main(String[] args) {
        Set<String> shown = new TreeSet<>();
        for (Field field : PostDrawer.class.getDeclaredFields()) {
            if (!Modifier.isPrivate(field.getModifiers())) {
                shown.add(field.toString());
            }
        }
        for (Constructor<?> constructor : PostDrawer.class.getDeclaredConstructors()) {
            shown.add(constructor.toString());
        }
        for (Method method : PostDrawer.class.getDeclaredMethods()) {
            if (!Modifier.isPrivate(method.getModifiers())) {
                shown.add(method.toString());
            }
        }
        boolean constants = PostDrawer.NONE == -1 && PostDrawer.OUTSIDE == -12
            && PostDrawer.STATE == -13 && PostDrawer.ROOM == -14;
        boolean isFinal = Modifier.isFinal(PostDrawer.class.getModifiers());
        if (!shown.equals(DUE) || !constants || !isFinal) {
            System.out.println("the face is not the document's: " + shown);
            System.exit(1);
        }
        System.out.println("the face is the document's");
    }
}
