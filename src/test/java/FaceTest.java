import java.lang.reflect.Constructor;
import java.lang.reflect.Field;
import java.lang.reflect.Method;
import java.lang.reflect.Modifier;
import java.util.Arrays;
import java.util.TreeSet;

/** The public face is the document's, and no more than that. */
public final class FaceTest {
    private static final String[] FACE = {
        "public PerformRanges()",
        "public static final int PerformRanges.NONE",
        "public int PerformRanges.paragraph(int)",
        "public int PerformRanges.perform(int,int,int,int)",
        "public int PerformRanges.until(int,int,long,boolean)",
        "public int PerformRanges.vary(int,int,int,long,long)",
        "public int PerformRanges.goTo(int,int)",
        "public int PerformRanges.run(int,long)",
        "public int PerformRanges.plain(int,long)",
        "public int PerformRanges.order(int)",
        "public int PerformRanges.active(int)",
        "public long PerformRanges.get(int) throws java.lang.IllegalArgumentException",
        "public long PerformRanges.put(int,long) throws java.lang.IllegalArgumentException",
        "public int PerformRanges.count(int)",
    };

    public static void main(String[] args) {
        Check.about("the public face");
        TreeSet<String> want = new TreeSet<>(Arrays.asList(FACE));
        TreeSet<String> got = new TreeSet<>();
        for (Constructor<?> c : PerformRanges.class.getDeclaredConstructors()) {
            addIfSeen(got, c.getModifiers(), c.toString());
        }
        for (Field f : PerformRanges.class.getDeclaredFields()) {
            addIfSeen(got, f.getModifiers(), f.toString());
        }
        for (Method m : PerformRanges.class.getDeclaredMethods()) {
            addIfSeen(got, m.getModifiers(), m.toString());
        }
        Check.due("the members that are not private", got.toString(), want.toString());
        Check.due("the class's modifiers", Modifier.toString(PerformRanges.class.getModifiers()), "public final");
        Check.due("NONE", PerformRanges.NONE, -1);
        Check.finish();
    }

    private static void addIfSeen(TreeSet<String> seen, int modifiers, String text) {
        if (!Modifier.isPrivate(modifiers)) {
            seen.add(text);
        }
    }
}
