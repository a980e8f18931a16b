import java.lang.reflect.Constructor;
import java.lang.reflect.Field;
import java.lang.reflect.Method;
import java.lang.reflect.Modifier;
import java.util.Set;
import java.util.TreeSet;

/**
 * The public face: just the members of the document, and none beside them that could be seen from outside but for
 * the classes that rule 1 of LANGUAGE.md allows.
 */
public final class FaceTest {
    private static final Set<String> FACE = Set.of(
            "public static final int CurveScan.REFUSED",
            "public static final int CurveScan.NONE",
            "public static final int CurveScan.FULL",
            "public CurveScan(int)",
            "public int CurveScan.point(int,int,boolean)",
            "public int CurveScan.close()",
            "public int CurveScan.clear()",
            "public int CurveScan.winding(int,int)",
            "public long CurveScan.row(int)",
            "public int CurveScan.count(int)");

    public static void main(String[] args) {
        Check check = new Check();
        check.due("REFUSED", CurveScan.REFUSED, -1);
        check.due("NONE", CurveScan.NONE, -2);
        check.due("FULL", CurveScan.FULL, -3);
        int modifiers = CurveScan.class.getModifiers();
        check.due("the class is public", Modifier.isPublic(modifiers) ? 1 : 0, 1);
        check.due("the class is final", Modifier.isFinal(modifiers) ? 1 : 0, 1);
        Set<String> seen = visibleMembers();
        for (String member : FACE) {
            check.due("there is " + member, seen.contains(member) ? 1 : 0, 1);
        }
        for (String member : seen) {
            check.due("the document has " + member, FACE.contains(member) ? 1 : 0, 1);
        }
        privateNamesAreTheirOwn(check);
        classesInsideAreStatic(check);
        check.end();
    }

    private static void privateNamesAreTheirOwn(Check check) {
        Set<String> publicNames = Set.of("point", "close", "clear", "winding", "row", "count");
        for (Method method : CurveScan.class.getDeclaredMethods()) {
            boolean borne = Modifier.isPrivate(method.getModifiers()) && publicNames.contains(method.getName());
            check.due("private methods that bear the public name " + method.getName(), borne ? 1 : 0, 0);
        }
    }

    private static void classesInsideAreStatic(Check check) {
        for (Class<?> inside : CurveScan.class.getDeclaredClasses()) {
            int modifiers = inside.getModifiers();
            boolean hidden = !Modifier.isPublic(modifiers) && !Modifier.isProtected(modifiers);
            check.due(inside.getName() + " is private or package-visible", hidden ? 1 : 0, 1);
            check.due(inside.getName() + " is static", Modifier.isStatic(modifiers) ? 1 : 0, 1);
        }
    }

    private static Set<String> visibleMembers() {
        Set<String> seen = new TreeSet<>();
        for (Field field : CurveScan.class.getDeclaredFields()) {
            if (isVisible(field.getModifiers(), field.isSynthetic())) {
                seen.add(field.toString());
            }
        }
        for (Constructor<?> constructor : CurveScan.class.getDeclaredConstructors()) {
            if (isVisible(constructor.getModifiers(), constructor.isSynthetic())) {
                seen.add(constructor.toString());
            }
        }
        for (Method method : CurveScan.class.getDeclaredMethods()) {
            if (isVisible(method.getModifiers(), method.isSynthetic())) {
                seen.add(method.toString());
            }
        }
        return seen;
    }

    private static boolean isVisible(int modifiers, boolean synthetic) {
        return !synthetic && !Modifier.isPrivate(modifiers);
    }
}
