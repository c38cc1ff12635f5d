import java.lang.reflect.Constructor;
import java.lang.reflect.Field;
import java.lang.reflect.Member;
import java.lang.reflect.Method;
import java.lang.reflect.Modifier;
import java.util.ArrayList;
import java.util.Arrays;
import java.util.Collections;
import java.util.List;
import java.util.TreeSet;

/** The public face is the document's, and nothing but the classes inside is seen beside it. */
public final class FaceTest {
    private static final Check CHECK = new Check();

    private static final String[] FACE = {
        "public PackedDecimals()",
        "public byte PackedDecimals.at(int,int) throws java.lang.ArrayIndexOutOfBoundsException",
        "public boolean PackedDecimals.valid(int) throws java.lang.ArrayIndexOutOfBoundsException",
        "public int PackedDecimals.apply(int,int,int,int) throws "
                + "java.lang.ArrayIndexOutOfBoundsException,java.lang.ArithmeticException",
        "public int PackedDecimals.compare(int,int) throws java.lang.ArrayIndexOutOfBoundsException",
        "public int PackedDecimals.convert(int,int) throws java.lang.ArrayIndexOutOfBoundsException",
        "public int PackedDecimals.digit(int,int) throws java.lang.ArrayIndexOutOfBoundsException",
        "public int PackedDecimals.number(int,int,int) throws java.lang.NegativeArraySizeException",
        "public int PackedDecimals.round(int,int) throws java.lang.ArrayIndexOutOfBoundsException",
        "public int PackedDecimals.size(int) throws java.lang.ArrayIndexOutOfBoundsException",
        "public short PackedDecimals.half(int) throws java.lang.ArrayIndexOutOfBoundsException",
        "public static final int PackedDecimals.NONE",
        "public void PackedDecimals.octet(int,int,byte) throws java.lang.ArrayIndexOutOfBoundsException",
    };

    private static boolean hidden(Member member) {
        return Modifier.isPrivate(member.getModifiers()) || member.isSynthetic();
    }

    private static List<String> seen() {
        List<String> seen = new ArrayList<>();
        for (Constructor<?> c : PackedDecimals.class.getDeclaredConstructors()) {
            if (!hidden(c)) {
                seen.add(c.toString());
            }
        }
        for (Field f : PackedDecimals.class.getDeclaredFields()) {
            if (!hidden(f)) {
                seen.add(f.toString());
            }
        }
        for (Method m : PackedDecimals.class.getDeclaredMethods()) {
            if (!hidden(m)) {
                seen.add(m.toString());
            }
        }
        Collections.sort(seen);
        return seen;
    }

    /** Names of the methods inside that a public one bears, too. */
    private static TreeSet<String> doubleNames() {
        TreeSet<String> face = new TreeSet<>();
        TreeSet<String> inside = new TreeSet<>();
        for (Method m : PackedDecimals.class.getDeclaredMethods()) {
            (hidden(m) ? inside : face).add(m.getName());
        }
        for (Class<?> c : PackedDecimals.class.getDeclaredClasses()) {
            CHECK.due(c + " is static", Modifier.isStatic(c.getModifiers()), true);
            for (Method m : c.getDeclaredMethods()) {
                inside.add(m.getName());
            }
        }
        inside.retainAll(face);
        return inside;
    }

    public static void main(String[] args) {
        CHECK.section("the face");
        List<String> want = Arrays.asList(FACE.clone());
        Collections.sort(want);
        CHECK.due("what is seen", seen().toString(), want.toString());
        int modifiers = PackedDecimals.class.getModifiers();
        CHECK.due("public", Modifier.isPublic(modifiers), true);
        CHECK.due("final", Modifier.isFinal(modifiers), true);
        CHECK.due("NONE", PackedDecimals.NONE, -1);
        CHECK.due("names borne twice", doubleNames().toString(), "[]");
        CHECK.end("FaceTest");
    }
}
