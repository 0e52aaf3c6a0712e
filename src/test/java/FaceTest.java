import java.lang.reflect.Constructor;
import java.lang.reflect.Field;
import java.lang.reflect.Method;
import java.lang.reflect.Modifier;
import java.nio.file.Files;
import java.nio.file.Path;
import java.util.ArrayList;
import java.util.List;
import java.util.TreeSet;

/** The class has the face that the document shows, and nothing else that is seen from outside. */
public final class FaceTest {
    private static int wrong;
    private static int right;

    public static void main(String[] args) throws Exception {
        TreeSet<String> due = faceOfDocument();
        TreeSet<String> mine = new TreeSet<>();
        check("public and final", Modifier.isPublic(RobotAisles.class.getModifiers())
            && Modifier.isFinal(RobotAisles.class.getModifiers()));
        for (Constructor<?> one : RobotAisles.class.getDeclaredConstructors()) {
            mine.add("RobotAisles(" + types(one.getParameterTypes()) + ")");
            check("constructor public", Modifier.isPublic(one.getModifiers()));
        }
        TreeSet<String> publicNames = new TreeSet<>();
        for (Method one : RobotAisles.class.getDeclaredMethods()) {
            if (!Modifier.isPrivate(one.getModifiers())) {
                publicNames.add(one.getName());
                mine.add(one.getReturnType() + " " + one.getName() + "(" + types(one.getParameterTypes()) + ") "
                    + types(one.getExceptionTypes()));
            }
        }
        for (Method one : RobotAisles.class.getDeclaredMethods()) {
            boolean isPrivate = Modifier.isPrivate(one.getModifiers());
            check("private " + one.getName(), !isPrivate || !publicNames.contains(one.getName()));
        }
        for (Field one : RobotAisles.class.getDeclaredFields()) {
            check("field " + one.getName(), Modifier.isPrivate(one.getModifiers()));
        }
        for (Class<?> one : RobotAisles.class.getDeclaredClasses()) {
            check("static " + one.getName(), Modifier.isStatic(one.getModifiers()));
        }
        check("the face: due is\n" + due + ", there is\n" + mine, due.equals(mine));
        System.out.println("FaceTest: " + right + " passed, " + wrong + " failed");
        System.exit(wrong == 0 ? 0 : 1);
    }

    /** Its methods as the part of the document between the first fences shows them. */
    private static TreeSet<String> faceOfDocument() throws Exception {
        TreeSet<String> face = new TreeSet<>();
        List<String> lines = Files.readAllLines(Path.of("../shared/DOC.md"));
        int begin = lines.indexOf("public final class RobotAisles {");
        for (int i = begin + 1; begin >= 0 && !lines.get(i).equals("}"); i++) {
            String line = lines.get(i).trim().replace("public ", "").replace(";", "");
            String head = line.substring(0, line.indexOf('('));
            List<String> types = new ArrayList<>();
            for (String parameter : line.substring(line.indexOf('(') + 1, line.indexOf(')')).split(",")) {
                types.add(parameter.trim().split(" ")[0]);
            }
            String thrown = line.contains("throws ") ? line.substring(line.indexOf("throws ") + 7).replace(" ", "") : "";
            face.add(head + "(" + String.join(",", types) + ")" + (head.contains(" ") ? " " + thrown : ""));
        }
        return face;
    }

    private static String types(Class<?>[] classes) {
        List<String> names = new ArrayList<>();
        for (Class<?> one : classes) {
            names.add(one.getSimpleName());
        }
        return String.join(",", names);
    }

    private static void check(String what, boolean holds) {
        if (holds) {
            right++;
        } else {
            wrong++;
            System.out.println("not so: " + what);
        }
    }
}
