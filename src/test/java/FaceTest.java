import java.lang.reflect.Constructor;
import java.lang.reflect.Field;
import java.lang.reflect.Method;
import java.lang.reflect.Modifier;
import java.nio.file.Files;
import java.nio.file.Path;
import java.util.Set;
import java.util.TreeSet;

/** The public face is the document's, no more and no less (LANGUAGE.md, rule 1). */
public final class FaceTest {
    public static void main(String[] args) throws Exception {
        Checks checks = new Checks();
        String document = Files.readString(Path.of("../shared/DOC.md"));
        int from = document.indexOf("public final class CoachAhead {");
        String block = document.substring(from, document.indexOf("```", from));
        Set<String> wanted = new TreeSet<>();
        for (String line : block.split("\n")) {
            String face = line.trim();
            if (face.startsWith("public int ")) {
                wanted.add(face.replaceAll("public int |;", "").replaceAll("(int|long) \\w+", "$1"));
            }
        }
        Set<String> found = new TreeSet<>();
        for (Method method : CoachAhead.class.getDeclaredMethods()) {
            if (Modifier.isPrivate(method.getModifiers())) {
                checks.holds("private " + method.getName() + " bears no public name",
                    wanted.stream().noneMatch(face -> face.startsWith(method.getName() + "(")));
                continue;
            }
            checks.holds(method.getName() + " is public and answers an int",
                method.getModifiers() == Modifier.PUBLIC && method.getReturnType() == int.class);
            StringBuilder face = new StringBuilder(method.getName()).append("(");
            for (Class<?> type : method.getParameterTypes()) {
                face.append(face.charAt(face.length() - 1) == '(' ? "" : ", ").append(type.getName());
            }
            found.add(face.append(")").toString());
        }
        for (Class<?> inside : CoachAhead.class.getDeclaredClasses()) {
            checks.holds(inside.getName() + " is static, and not public", Modifier.isStatic(inside.getModifiers())
                && !Modifier.isPublic(inside.getModifiers()) && !Modifier.isProtected(inside.getModifiers()));
            for (Method method : inside.getDeclaredMethods()) {
                checks.holds(inside.getName() + "." + method.getName() + " bears no public name",
                    wanted.stream().noneMatch(face -> face.startsWith(method.getName() + "(")));
            }
        }
        checks.due("methods of the document", wanted.size(), 63);
        checks.holds("the methods are the document's: " + found, found.equals(wanted));
        for (Field field : CoachAhead.class.getDeclaredFields()) {
            checks.holds(field.getName() + " is private",
                Modifier.isPrivate(field.getModifiers()) || field.getName().equals("NONE"));
        }
        checks.due("NONE", CoachAhead.NONE, -1);
        checks.holds("the class is final", Modifier.isFinal(CoachAhead.class.getModifiers()));
        Constructor<?>[] makers = CoachAhead.class.getDeclaredConstructors();
        checks.holds("one public constructor without parameters",
            makers.length == 1 && makers[0].getParameterCount() == 0 && Modifier.isPublic(makers[0].getModifiers()));
        checks.close("FaceTest");
    }
}
