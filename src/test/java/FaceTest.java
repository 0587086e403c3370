import java.lang.reflect.Constructor;
import java.lang.reflect.Field;
import java.lang.reflect.Method;
import java.lang.reflect.Modifier;
import java.util.TreeSet;

/** The face is the document's, and nothing else is seen from outside. */
public final class FaceTest {
    private static final String[] FACE = {
        "int valley 1", "int wind 2", "int player 3", "int type 1", "int clear 0", "int read 0", "int hits 1",
        "int picks 1", "int cock 2", "int hours 1", "int undo 0", "int now 1", "int of 2", "int reach 2", "int may 0",
        "int rally 2", "int lasts 0", "int place 1", "int seen 3", "int heavy 1", "int tell 1", "int note 4",
        "int mark 4", "int forget 1", "int is 0", "int look 0", "int kinds 1", "int ask 1", "int yours 2",
        "int gusts 2", "int centuries 2", "long part 1", "int image 1", "int from 1", "int status 1", "int count 1",
        "long digest 0"};

    public static void main(String[] args) {
        Due due = new Due();
        TreeSet<String> want = new TreeSet<>(java.util.Arrays.asList(FACE));
        TreeSet<String> names = new TreeSet<>();
        for (String line : FACE) names.add(line.split(" ")[1]);
        for (Method m : TruthOver.class.getDeclaredMethods()) {
            String line = m.getReturnType() + " " + m.getName() + " " + m.getParameterCount();
            if (Modifier.isPublic(m.getModifiers())) {
                due.holds("the face has " + line, want.remove(line));
                for (Class<?> c : m.getParameterTypes()) due.holds(line + " takes int", c == int.class);
            } else {
                due.holds(line + " is private", Modifier.isPrivate(m.getModifiers()));
                due.holds(line + " bears no public name", !names.contains(m.getName()));
            }
        }
        due.due("methods that are missing: " + want, want.size(), 0);
        for (Field f : TruthOver.class.getDeclaredFields()) {
            boolean constant = "NONE BAD NO FULL".contains(f.getName());
            due.holds(f.getName() + " is private", constant || Modifier.isPrivate(f.getModifiers()));
        }
        due.due("NONE", TruthOver.NONE, -1);
        due.due("BAD", TruthOver.BAD, -2);
        due.due("NO", TruthOver.NO, -3);
        due.due("FULL", TruthOver.FULL, -4);
        Constructor<?>[] all = TruthOver.class.getDeclaredConstructors();
        due.due("constructors", all.length, 1);
        due.holds("it is public", Modifier.isPublic(all[0].getModifiers()));
        due.holds("the class is public and final", (TruthOver.class.getModifiers() & 17) == 17);
        for (Class<?> c : TruthOver.class.getDeclaredClasses()) {
            due.holds(c + " is static", Modifier.isStatic(c.getModifiers()));
            due.holds(c + " is not public", !Modifier.isPublic(c.getModifiers()));
            for (Method m : c.getDeclaredMethods()) {
                due.holds(c + "." + m.getName() + " bears no public name", !names.contains(m.getName()));
            }
        }
        due.end();
    }
}
