import java.io.IOException;
import java.lang.reflect.Constructor;
import java.lang.reflect.Field;
import java.lang.reflect.Method;
import java.lang.reflect.Modifier;
import java.nio.file.Files;
import java.nio.file.Path;
import java.util.ArrayList;
import java.util.Collections;
import java.util.HashSet;
import java.util.List;
import java.util.Set;

/** The face is that of ../shared/DOC.md to the letter; and what ../shared/LANGUAGE.md says of names and imports. */
public final class FaceTest {
    private static int wrong;

    private static void due(String what, Object got, Object want) {
        if (!got.equals(want)) {
            wrong++;
            System.out.println(what + " is " + got + ", due is " + want);
        }
    }

    private static List<String> documentFace() throws IOException {
        List<String> lines = new ArrayList<>();
        boolean inside = false;
        for (String line : Files.readAllLines(Path.of("../shared/DOC.md"))) {
            if (line.startsWith("```")) {
                inside = line.equals("```java");
            } else if (inside && line.startsWith("    public") && line.contains(") throws ")) {
                lines.add(line.trim());
            } else if (inside && line.startsWith("    public") && line.endsWith(");")) {
                lines.add(line.trim());
            }
        }
        lines.remove("public UtilityWorks();");
        Collections.sort(lines);
        return lines;
    }

    private static String told(Method m, List<String> document) {
        StringBuilder text = new StringBuilder("public ").append(m.getReturnType()).append(' ').append(m.getName());
        text.append('(');
        String[] names = namesOf(m.getName(), document);
        for (int k = 0; k < m.getParameterCount(); k++) {
            text.append(k == 0 ? "" : ", ").append(m.getParameterTypes()[k]).append(' ');
            text.append(k < names.length ? names[k] : "?");
        }
        text.append(')');
        for (int k = 0; k < m.getExceptionTypes().length; k++) {
            text.append(k == 0 ? " throws " : ", ").append(m.getExceptionTypes()[k].getSimpleName());
        }
        return text.append(';').toString();
    }

    /** The class file holds no names of parameters, so those are the document's. */
    private static String[] namesOf(String call, List<String> document) {
        for (String line : document) {
            if (line.contains(" " + call + "(")) {
                String inside = line.substring(line.indexOf('(') + 1, line.indexOf(')'));
                String[] names = inside.split(", ");
                for (int k = 0; k < names.length; k++) {
                    names[k] = names[k].substring(names[k].indexOf(' ') + 1);
                }
                return names;
            }
        }
        return new String[0];
    }

    public static void main(String[] args) throws IOException {
        List<String> document = documentFace();
        due("calls in the document", document.size() > 100, true);
        List<String> face = new ArrayList<>();
        Set<String> publicNames = new HashSet<>();
        for (Method m : UtilityWorks.class.getDeclaredMethods()) {
            if (Modifier.isPublic(m.getModifiers())) {
                face.add(told(m, document));
                publicNames.add(m.getName());
            } else {
                due(m.getName() + " private", Modifier.isPrivate(m.getModifiers()), true);
            }
        }
        Collections.sort(face);
        for (int k = 0; k < Math.max(face.size(), document.size()); k++) {
            due("call " + k, k < face.size() ? face.get(k) : "none", k < document.size() ? document.get(k) : "none");
        }
        for (Field f : UtilityWorks.class.getDeclaredFields()) {
            due(f.getName() + " private", Modifier.isPrivate(f.getModifiers()), !f.getName().equals("NONE"));
            due(f.getName() + " final", Modifier.isFinal(f.getModifiers()), true);
        }
        for (Constructor<?> c : UtilityWorks.class.getDeclaredConstructors()) {
            due("constructor", Modifier.isPublic(c.getModifiers()) && c.getParameterCount() == 0, true);
        }
        due("the class", Modifier.isFinal(UtilityWorks.class.getModifiers()), true);
        due("few classes", UtilityWorks.class.getDeclaredClasses().length <= 11, true);
        for (Class<?> inner : UtilityWorks.class.getDeclaredClasses()) {
            due(inner + " static", Modifier.isStatic(inner.getModifiers()), true);
            due(inner + " private", Modifier.isPrivate(inner.getModifiers()), true);
            for (Method m : inner.getDeclaredMethods()) {
                due(m + " bears the name of a public one", publicNames.contains(m.getName()), false);
            }
        }
        for (Method m : UtilityWorks.class.getDeclaredMethods()) {
            boolean hides = !Modifier.isPublic(m.getModifiers()) && publicNames.contains(m.getName());
            due(m + " bears the name of a public one", hides, false);
        }
        for (String line : Files.readAllLines(Path.of("src/main/java/UtilityWorks.java"))) {
            due(line, line.startsWith("import ") && !line.equals("import java.util.Arrays;"), false);
            due(line, line.contains("->") || line.contains("::") || line.contains("catch"), false);
        }
        System.out.println(wrong == 0 ? "the face is the document's" : wrong + " things are not as due");
        if (wrong != 0) {
            System.exit(1);
        }
    }
}
