import java.io.IOException;
import java.lang.reflect.Constructor;
import java.lang.reflect.Field;
import java.lang.reflect.Method;
import java.lang.reflect.Modifier;
import java.nio.file.Files;
import java.nio.file.Path;
import java.util.Set;
import java.util.TreeSet;
import java.util.regex.Matcher;
import java.util.regex.Pattern;

/** The public face: just the constants, the constructor and the methods that the document shows. */
public final class FaceTest {
    public static void main(String[] args) throws IOException {
        Set<String> shown = shown(Files.readString(Path.of("../shared/DOC.md")));
        Set<String> built = built();
        Set<String> missing = new TreeSet<>(shown);
        missing.removeAll(built);
        Set<String> more = new TreeSet<>(built);
        more.removeAll(shown);
        System.out.println(shown.size() + " members, missing " + missing + ", not shown " + more);
        if (!missing.isEmpty() || !more.isEmpty() || shown.size() < 47) {
            System.exit(1);
        }
    }

    private static Set<String> shown(String document) {
        Set<String> members = new TreeSet<>();
        int from = document.indexOf("public final class FlakeArms {");
        String face = document.substring(from, document.indexOf("```", from));
        Matcher m = Pattern.compile("public (\\w+ )?(\\w+)\\(([^)]*)\\);").matcher(face);
        while (m.find()) {
            String types = m.group(3).replaceAll("(\\w+) \\w+", "$1").replace(" ", "");
            members.add((m.group(1) == null ? "" : m.group(1)) + m.group(2) + "(" + types + ")");
        }
        m = Pattern.compile("(\\w+) = (-?\\d+)").matcher(face);
        while (m.find()) {
            members.add("int " + m.group(1) + " = " + m.group(2));
        }
        return members;
    }

    private static Set<String> built() {
        Set<String> members = new TreeSet<>();
        for (Method m : FlakeArms.class.getDeclaredMethods()) {
            if (!Modifier.isPrivate(m.getModifiers())) {
                members.add(m.getReturnType() + " " + m.getName() + types(m.getParameterTypes()));
            }
        }
        for (Constructor<?> k : FlakeArms.class.getDeclaredConstructors()) {
            members.add("FlakeArms" + types(k.getParameterTypes()));
        }
        for (Field f : FlakeArms.class.getDeclaredFields()) {
            if (!Modifier.isPrivate(f.getModifiers())) {
                members.add(f.getType() + " " + f.getName() + " = " + valueOf(f));
            }
        }
        return members;
    }

    private static String types(Class<?>[] types) {
        StringBuilder b = new StringBuilder("(");
        for (Class<?> type : types) {
            b.append(b.length() > 1 ? "," : "").append(type);
        }
        return b.append(")").toString();
    }

    private static String valueOf(Field f) {
        try {
            return "" + f.get(null);
        } catch (IllegalAccessException e) {
            return "out of reach";
        }
    }
}
