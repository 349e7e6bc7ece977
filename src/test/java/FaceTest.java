import java.lang.reflect.Constructor;
import java.lang.reflect.Field;
import java.lang.reflect.Member;
import java.lang.reflect.Method;
import java.lang.reflect.Modifier;
import java.util.Set;
import java.util.TreeSet;

/** The public face is the document's, and nothing else can be seen from outside. */
public final class FaceTest {
    private static final Set<String> DUE = Set.of(
        "public static final int LevelTypes.NONE",
        "public LevelTypes()",
        "public void LevelTypes.clear()",
        "public int LevelTypes.define(boolean,long,int)",
        "public int LevelTypes.parameter(long,int)",
        "public int LevelTypes.node(int,long,long,int)",
        "public int LevelTypes.check()",
        "public int LevelTypes.type(int)",
        "public int LevelTypes.binder(int)",
        "public int LevelTypes.target(int)",
        "public int LevelTypes.of(int,int)",
        "public int LevelTypes.look(int)");

    private static final Set<String> seen = new TreeSet<>();

    public static void main(String[] args) {
        Expect expect = new Expect();
        for (Field field : LevelTypes.class.getDeclaredFields()) {
            note(field, field.toString());
        }
        for (Constructor<?> constructor : LevelTypes.class.getDeclaredConstructors()) {
            note(constructor, constructor.toString());
        }
        for (Method method : LevelTypes.class.getDeclaredMethods()) {
            note(method, method.toString());
        }
        expect.holds("the face " + seen, seen.equals(DUE));
        int modifiers = LevelTypes.class.getModifiers();
        expect.holds("public final", Modifier.isPublic(modifiers) && Modifier.isFinal(modifiers));
        expect.same("NONE", LevelTypes.NONE, -1);
        expect.finish();
    }

    private static void note(Member member, String text) {
        if (!Modifier.isPrivate(member.getModifiers())) {
            seen.add(text);
        }
    }
}
