import java.io.IOException;
import java.lang.reflect.Constructor;
import java.lang.reflect.Field;
import java.lang.reflect.Method;
import java.lang.reflect.Modifier;
import java.nio.file.Files;
import java.nio.file.Path;
import java.util.Set;
import java.util.TreeSet;
import java.util.regex.Matcher;
import java.util.regex.Pattern;

/** The class has the document's face, and nothing else that another class could see. */
public final class FaceTest {
    private static final Pattern CALL = Pattern.compile("public (\\w+) (\\w+)\\(([^)]*)\\)(?: throws (\\w+))?;");

    public static void main(String[] args) throws Exception {
        Set<String> due = face();
        Set<String> got = new TreeSet<>();
        boolean right = due.size() == 45;
        right &= Modifier.isFinal(SecondPaper.class.getModifiers()) && Modifier.isPublic(SecondPaper.class.getModifiers());
        for (Method m : SecondPaper.class.getDeclaredMethods()) {
            if (!Modifier.isPrivate(m.getModifiers())) {
                got.add(told(m));
                right &= Modifier.isPublic(m.getModifiers()) && !Modifier.isStatic(m.getModifiers());
            }
        }
        for (Field f : SecondPaper.class.getDeclaredFields()) {
            right &= Modifier.isPrivate(f.getModifiers()) || f.getName().equals("NONE");
            right &= !Modifier.isStatic(f.getModifiers()) || Modifier.isFinal(f.getModifiers());
        }
        Constructor<?>[] constructors = SecondPaper.class.getDeclaredConstructors();
        right &= constructors.length == 1 && constructors[0].getParameterCount() == 0
            && Modifier.isPublic(constructors[0].getModifiers());
        Field none = SecondPaper.class.getField("NONE");
        right &= none.getType() == int.class && none.getInt(null) == -1 && Modifier.isFinal(none.getModifiers());
        for (Class<?> inside : SecondPaper.class.getDeclaredClasses()) {
            right &= Modifier.isStatic(inside.getModifiers());
            right &= !Modifier.isPublic(inside.getModifiers()) && !Modifier.isProtected(inside.getModifiers());
        }
        if (!right || !got.equals(due)) {
            System.out.println("the face is " + got + ", due is " + due);
            System.exit(1);
        }
        System.out.println("the face is as due");
    }

    /** Of each call of the document's face what it answers, its name, what sorts of numbers it takes, what it throws. */
    private static Set<String> face() throws IOException {
        String document = Files.readString(Path.of("../shared/DOC.md"));
        Matcher matcher = CALL.matcher(document.substring(document.indexOf("```java"), document.indexOf("## Terms")));
        Set<String> face = new TreeSet<>();
        while (matcher.find()) {
            String sorts = matcher.group(3).replaceAll(" \\w+(, )?", " ").trim();
            String thrown = matcher.group(4) == null ? "" : " throws " + matcher.group(4);
            face.add((matcher.group(1) + " " + matcher.group(2) + " " + sorts).trim() + thrown);
        }
        return face;
    }

    private static String told(Method m) {
        StringBuilder told = new StringBuilder(m.getReturnType() + " " + m.getName());
        for (Class<?> type : m.getParameterTypes()) {
            told.append(' ').append(type);
        }
        for (Class<?> type : m.getExceptionTypes()) {
            told.append(" throws ").append(type.getSimpleName());
        }
        return told.toString();
    }
}
