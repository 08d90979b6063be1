import java.lang.reflect.Constructor;
import java.lang.reflect.Field;
import java.lang.reflect.Method;
import java.lang.reflect.Modifier;
import java.util.Set;
import java.util.TreeSet;

// The public face is the document's, and no other member can be seen from outside.
public final class GroupRowsFace {
    private static final Set<String> DUE = Set.of(
        "public static final int GroupRows.NONE",
        "public static final int GroupRows.FULL",
        "public static final int GroupRows.ALL",
        "public GroupRows()",
        "public void GroupRows.begin(int,int) throws java.lang.IllegalArgumentException",
        "public int GroupRows.key(int,int) throws java.lang.IllegalArgumentException",
        "public long GroupRows.amount(int,long) throws java.lang.IllegalArgumentException",
        "public int GroupRows.add(int) throws java.lang.IllegalArgumentException",
        "public int GroupRows.spread(int,int,int) throws java.lang.IllegalArgumentException",
        "public int GroupRows.roll(int) throws java.lang.IllegalArgumentException",
        "public int GroupRows.rows()",
        "public int GroupRows.find()",
        "public int GroupRows.keyAt(int,int) throws java.lang.IllegalArgumentException",
        "public long GroupRows.count(int) throws java.lang.IllegalArgumentException",
        "public long GroupRows.told(int,int,int) throws java.lang.IllegalArgumentException");

    public static void main(String[] args) {
        Set<String> seen = new TreeSet<>();
        for (Field f : GroupRows.class.getDeclaredFields()) {
            note(seen, f.getModifiers(), f.toString());
        }
        for (Constructor<?> c : GroupRows.class.getDeclaredConstructors()) {
            note(seen, c.getModifiers(), c.toString());
        }
        for (Method m : GroupRows.class.getDeclaredMethods()) {
            note(seen, m.getModifiers(), m.toString());
        }
        boolean right = Modifier.toString(GroupRows.class.getModifiers()).equals("public final");
        if (!right) {
            System.out.println("the class is not public final");
        }
        for (String member : DUE) {
            if (!seen.contains(member)) {
                right = false;
                System.out.println("missing: " + member);
            }
        }
        for (String member : seen) {
            if (!DUE.contains(member)) {
                right = false;
                System.out.println("not in the document: " + member);
            }
        }
        System.out.println(right ? "the face is the document's" : "the face is not the document's");
        if (!right) {
            System.exit(1);
        }
    }

    private static void note(Set<String> seen, int modifiers, String member) {
        if (!Modifier.isPrivate(modifiers)) {
            seen.add(member);
        }
    }
}
