import java.lang.reflect.Constructor;
import java.lang.reflect.Field;
import java.lang.reflect.Member;
import java.lang.reflect.Method;
import java.lang.reflect.Modifier;
import java.util.Set;
import java.util.TreeSet;

/** The public face of the document, and rules 1 and 5 of LANGUAGE.md as far as the class itself shows them. */
public final class FaceTest {
    private static final Set<String> FACE = Set.of(
        "public CellRack()",
        "public int CellRack.feed(int,long) throws java.lang.IllegalArgumentException,java.lang.IllegalStateException",
        "public boolean CellRack.write(int,int,int) throws java.lang.IllegalArgumentException,java.lang.IllegalStateException",
        "public boolean CellRack.read(int,int) throws java.lang.IllegalArgumentException",
        "public long CellRack.outs(int) throws java.util.NoSuchElementException",
        "public int CellRack.tag(int,int) throws java.lang.IllegalArgumentException",
        "public int CellRack.cell(int,int) throws java.lang.IllegalArgumentException",
        "public int CellRack.at(int,int,int) throws java.lang.IllegalArgumentException,java.util.NoSuchElementException",
        "public boolean CellRack.fail(int) throws java.lang.IllegalArgumentException",
        "public boolean CellRack.replace(int) throws java.lang.IllegalArgumentException",
        "public boolean CellRack.corrupt(int,int,int,long,int) throws java.lang.IllegalArgumentException",
        "public void CellRack.lose(int) throws java.lang.IllegalArgumentException,java.lang.IllegalStateException",
        "public boolean CellRack.power()",
        "public long CellRack.look(int) throws java.util.NoSuchElementException");

    public static void main(String[] args) {
        Due due = new Due();
        Set<String> seen = new TreeSet<>();
        Set<String> publicNames = new TreeSet<>();
        for (Constructor<?> c : CellRack.class.getDeclaredConstructors()) {
            note(seen, c, c.toString());
        }
        for (Method m : CellRack.class.getDeclaredMethods()) {
            note(seen, m, m.toString());
            if (Modifier.isPublic(m.getModifiers())) {
                publicNames.add(m.getName());
            }
        }
        for (Field f : CellRack.class.getDeclaredFields()) {
            note(seen, f, f.toString());
            int m = f.getModifiers();
            due.is("static and not final: " + f, false, () -> Modifier.isStatic(m) && !Modifier.isFinal(m));
        }
        due.is("the face", new TreeSet<>(FACE), () -> seen);
        for (Method m : CellRack.class.getDeclaredMethods()) {
            due.is("private with a public name: " + m, false,
                () -> Modifier.isPrivate(m.getModifiers()) && publicNames.contains(m.getName()));
        }
        due.is("the class is final", true, () -> Modifier.isFinal(CellRack.class.getModifiers()));
        due.end();
    }

    private static void note(Set<String> seen, Member member, String told) {
        if (!Modifier.isPrivate(member.getModifiers())) {
            seen.add(told);
        }
    }
}
