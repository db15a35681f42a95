import java.lang.reflect.Constructor;
import java.lang.reflect.Executable;
import java.lang.reflect.Field;
import java.lang.reflect.Member;
import java.lang.reflect.Method;
import java.lang.reflect.Modifier;
import java.nio.file.Files;
import java.nio.file.Path;
import java.util.HashSet;
import java.util.Set;
import java.util.TreeSet;

/** The public face is that of the document, and nothing else can be seen of the class. */
public final class FaceTest {
    public static void main(String[] args) throws Exception {
        Probe.due("the face", new TreeSet<>(oursSeen()), new TreeSet<>(documented()));
        Probe.due("the class", Modifier.toString(Sluiceshelf.class.getModifiers()), "public final");
        hidden();
        inside();
        Probe.end();
    }

    private static Set<String> documented() throws Exception {
        String doc = Files.readString(Path.of("../shared/DOC.md"));
        String face = doc.substring(doc.indexOf("public final class Sluiceshelf {"), doc.indexOf("## Description"));
        Set<String> lines = new HashSet<>();
        for (String line : face.split("\n")) {
            String plain = line.strip();
            if (plain.startsWith("public ") && plain.endsWith(";")) {
                lines.add(plain.replaceAll("int \\w+([,)])", "int$1"));
            }
        }
        return lines;
    }

    private static Set<String> oursSeen() {
        Set<String> lines = new HashSet<>();
        for (Constructor<?> made : Sluiceshelf.class.getConstructors()) {
            lines.add("public Sluiceshelf" + parameters(made));
        }
        for (Method method : Sluiceshelf.class.getDeclaredMethods()) {
            if (Modifier.isPublic(method.getModifiers())) {
                lines.add(Modifier.toString(method.getModifiers()) + " " + method.getReturnType().getSimpleName() + " "
                        + method.getName() + parameters(method));
            }
        }
        return lines;
    }

    private static String parameters(Executable called) {
        StringBuilder text = new StringBuilder("(");
        for (Class<?> type : called.getParameterTypes()) {
            text.append(text.length() > 1 ? ", " : "").append(type.getSimpleName());
        }
        text.append(")");
        String before = " throws ";
        for (Class<?> type : called.getExceptionTypes()) {
            text.append(before).append(type.getSimpleName());
            before = ", ";
        }
        return text.append(";").toString();
    }

    private static void hidden() {
        Set<String> publicNames = new HashSet<>();
        for (Method method : Sluiceshelf.class.getDeclaredMethods()) {
            if (Modifier.isPublic(method.getModifiers())) {
                publicNames.add(method.getName());
            }
        }
        for (Method method : Sluiceshelf.class.getDeclaredMethods()) {
            if (!Modifier.isPublic(method.getModifiers())) {
                isPrivate(method);
                Probe.due("a name used twice, " + method, publicNames.contains(method.getName()), false);
            }
        }
        for (Field field : Sluiceshelf.class.getDeclaredFields()) {
            isPrivate(field);
            isNoStaticState(field);
        }
    }

    private static void isPrivate(Member member) {
        Probe.due("is private, " + member, Modifier.isPrivate(member.getModifiers()), true);
    }

    private static void isNoStaticState(Field field) {
        int how = field.getModifiers();
        Probe.due("is static and not final, " + field, Modifier.isStatic(how) && !Modifier.isFinal(how), false);
    }

    private static void inside() {
        for (Class<?> inner : Sluiceshelf.class.getDeclaredClasses()) {
            Probe.due("is static, " + inner, Modifier.isStatic(inner.getModifiers()), true);
            Probe.due("is public, " + inner, Modifier.isPublic(inner.getModifiers()), false);
            for (Field field : inner.getDeclaredFields()) {
                isNoStaticState(field);
            }
        }
    }
}
