import java.lang.reflect.Constructor;
import java.lang.reflect.Field;
import java.lang.reflect.Method;
import java.lang.reflect.Modifier;
import java.util.Arrays;
import java.util.Set;
import java.util.TreeSet;

/** The class has the document's face, and nothing else that another class could see. */
public final class FaceTest {
    private static final String FACE = "int feed int int int int int;int college int;int fault;int where;int thing int int"
        + ";int person int int;int giver int int;int rides int int;int takes int int;int meet int int;int near int int int int"
        + ";int would int int int;int riders int int;int spare int;int safest int;int planned int;int planHas int int"
        + ";int planScore int int;int first;int judge;int amiss;int soonest;int soonestOf int;int never;int fits;int could int"
        + ";int surely int;long value boolean;long lot int boolean;int rests int;int restOf int int;int limit boolean;int dare int"
        + ";long honours int boolean;int drawn int;int caught int int int;int give int int int;int day;boolean sew int;boolean undo"
        + ";int mark;boolean back int;int led int;int size int;int trouble";

    public static void main(String[] args) throws Exception {
        Set<String> due = new TreeSet<>(Arrays.asList(FACE.split(";")));
        Set<String> got = new TreeSet<>();
        boolean right = Modifier.isFinal(SecondPaper.class.getModifiers()) && Modifier.isPublic(SecondPaper.class.getModifiers());
        for (Method m : SecondPaper.class.getDeclaredMethods()) {
            if (Modifier.isPrivate(m.getModifiers())) {
                continue;
            }
            StringBuilder told = new StringBuilder(m.getReturnType() + " " + m.getName());
            for (Class<?> type : m.getParameterTypes()) {
                told.append(' ').append(type);
            }
            got.add(told.toString());
            right &= Modifier.isPublic(m.getModifiers()) && !Modifier.isStatic(m.getModifiers());
            right &= m.getExceptionTypes().length == (m.getName().equals("led") ? 1 : 0);
        }
        for (Field f : SecondPaper.class.getDeclaredFields()) {
            right &= Modifier.isPrivate(f.getModifiers()) || f.getName().equals("NONE");
            right &= !Modifier.isStatic(f.getModifiers()) || Modifier.isFinal(f.getModifiers());
        }
        Constructor<?>[] constructors = SecondPaper.class.getDeclaredConstructors();
        right &= constructors.length == 1 && constructors[0].getParameterCount() == 0
            && Modifier.isPublic(constructors[0].getModifiers()) && SecondPaper.class.getField("NONE").getInt(null) == -1;
        for (Class<?> inside : SecondPaper.class.getDeclaredClasses()) {
            right &= Modifier.isStatic(inside.getModifiers()) && !Modifier.isPublic(inside.getModifiers());
        }
        if (!right || !got.equals(due)) {
            System.out.println("the face is " + got + ", due is " + due);
            System.exit(1);
        }
        System.out.println("the face is as due");
    }
}
