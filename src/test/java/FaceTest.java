import java.lang.reflect.Constructor;
import java.lang.reflect.Field;
import java.lang.reflect.Method;
import java.lang.reflect.Modifier;
import java.util.Set;
import java.util.TreeSet;

/** The class shows the document's face, and nothing else. */
public final class FaceTest {
    private static final String FACE = "[field public static final int NONE, "
        + "method public int answer(int,int), method public int cell(int,long), method public int count(int), "
        + "method public int goOn(long), method public int node(int,int,int), method public int order(int), "
        + "method public int paragraph(int,int), method public int place(), method public int raised(), "
        + "method public int run(int), method public int second(int), "
        + "method public long get(int) throws IllegalArgumentException, method public long result(), "
        + "new public (long)]";

    public static void main(String[] args) {
        Set<String> face = new TreeSet<>();
        for (Field f : ParagraphWalk.class.getDeclaredFields()) {
            if (!Modifier.isPrivate(f.getModifiers())) {
                face.add("field " + Modifier.toString(f.getModifiers()) + " " + f.getType() + " " + f.getName());
            }
        }
        for (Method m : ParagraphWalk.class.getDeclaredMethods()) {
            if (!Modifier.isPrivate(m.getModifiers())) {
                face.add("method " + Modifier.toString(m.getModifiers()) + " " + m.getReturnType() + " " + m.getName()
                    + types("(", m.getParameterTypes(), ")") + types(" throws ", m.getExceptionTypes(), ""));
            }
        }
        for (Constructor<?> c : ParagraphWalk.class.getDeclaredConstructors()) {
            face.add("new " + Modifier.toString(c.getModifiers()) + " " + types("(", c.getParameterTypes(), ")"));
        }
        Due due = new Due();
        due.isText("the face", face.toString(), FACE);
        due.is("the class is public and final",
            ParagraphWalk.class.getModifiers() & (Modifier.PUBLIC | Modifier.FINAL), Modifier.PUBLIC | Modifier.FINAL);
        due.is("NONE", ParagraphWalk.NONE, -1);
        due.close();
    }

    private static String types(String before, Class<?>[] all, String behind) {
        if (all.length == 0) {
            return before.equals("(") ? "()" : "";
        }
        StringBuilder text = new StringBuilder(before);
        for (int i = 0; i < all.length; i++) {
            text.append(i == 0 ? "" : ",").append(all[i].getSimpleName());
        }
        return text.append(behind).toString();
    }
}
