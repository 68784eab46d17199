import java.io.IOException;
import java.lang.reflect.Constructor;
import java.lang.reflect.Field;
import java.lang.reflect.Member;
import java.lang.reflect.Method;
import java.lang.reflect.Modifier;
import java.nio.file.Files;
import java.nio.file.Path;
import java.util.Set;
import java.util.TreeSet;
import java.util.regex.Matcher;
import java.util.regex.Pattern;

/** The public face as the document has it, and rule 1 of LANGUAGE.md: nothing else can be seen. */
public final class FaceTest {
    public static void main(String[] args) throws IOException, IllegalAccessException {
        String face = face();
        methods(face);
        constants(face);
        Constructor<?>[] constructors = Foldback.class.getDeclaredConstructors();
        Check.is("constructors", constructors.length, 1);
        Check.is("public", Modifier.isPublic(constructors[0].getModifiers()), true);
        Check.is("public final class", Foldback.class.getModifiers(), Modifier.PUBLIC | Modifier.FINAL);
        Check.is("its parent brings no members", Foldback.class.getSuperclass() == Object.class, true);
        Check.is("no more does an interface", Foldback.class.getInterfaces().length, 0);
        nothingElse();
        Check.end("FaceTest");
    }

    private static String face() throws IOException {
        String doc = Files.readString(Path.of("../shared/DOC.md"));
        int start = doc.indexOf("```java");
        return doc.substring(start, doc.indexOf("```", start + 3));
    }

    private static void methods(String face) {
        Set<String> due = new TreeSet<>();
        Matcher m = Pattern.compile("public (int|void|boolean) (\\w+)\\(([^)]*)\\)([^;]*);").matcher(face);
        while (m.find()) {
            String parameters = m.group(3).replaceAll("(int|boolean) \\w+", "$1").replace(", ", ",");
            due.add(m.group(1) + " " + m.group(2) + "(" + parameters + ")" + m.group(4).replace(", ", ","));
        }
        Set<String> got = new TreeSet<>();
        for (Method method : Foldback.class.getDeclaredMethods()) {
            if (Modifier.isPublic(method.getModifiers())) {
                Check.is(method.getName() + " is public and nothing else", method.getModifiers(), Modifier.PUBLIC);
                got.add(method.getReturnType() + " " + method.getName() + "(" + names(method.getParameterTypes()) + ")"
                        + (method.getExceptionTypes().length == 0 ? "" : " throws " + names(method.getExceptionTypes())));
            }
        }
        Check.is("58 methods", due.size(), 58);
        Check.is("methods", got.toString(), due.toString());
    }

    private static String names(Class<?>[] types) {
        StringBuilder s = new StringBuilder();
        for (Class<?> type : types) {
            s.append(s.length() == 0 ? "" : ",").append(type.getSimpleName());
        }
        return s.toString();
    }

    private static void constants(String face) throws IllegalAccessException {
        Set<String> due = new TreeSet<>();
        Matcher m = Pattern.compile("([A-Z_]+) = (-?\\d+)").matcher(face);
        while (m.find()) {
            due.add(m.group(1) + " " + m.group(2));
        }
        Set<String> got = new TreeSet<>();
        for (Field field : Foldback.class.getDeclaredFields()) {
            if (Modifier.isPublic(field.getModifiers())) {
                got.add(field.getName() + " " + field.getInt(null));
                Check.is(field.getName() + " is a constant", Modifier.isStatic(field.getModifiers()) && Modifier.isFinal(field.getModifiers()), true);
            }
        }
        Check.is("10 constants", due.size(), 10);
        Check.is("constants", got.toString(), due.toString());
    }

    private static void nothingElse() {
        Set<String> face = new TreeSet<>();
        for (Method method : Foldback.class.getDeclaredMethods()) {
            if (Modifier.isPublic(method.getModifiers())) {
                face.add(method.getName());
            }
        }
        for (Method method : Foldback.class.getDeclaredMethods()) {
            seenOrPrivate(method);
            if (Modifier.isPrivate(method.getModifiers())) {
                Check.is(method.getName() + " is no name of the face", face.contains(method.getName()), false);
            }
        }
        for (Field field : Foldback.class.getDeclaredFields()) {
            seenOrPrivate(field);
        }
        for (Class<?> inside : Foldback.class.getDeclaredClasses()) {
            int modifiers = inside.getModifiers();
            Check.is(inside + " is static", Modifier.isStatic(modifiers), true);
            Check.is(inside + " is hidden", Modifier.isPublic(modifiers) || Modifier.isProtected(modifiers), false);
            for (Method method : inside.getDeclaredMethods()) {
                Check.is(inside + "." + method.getName() + " is no name of the face", face.contains(method.getName()), false);
            }
        }
    }

    private static void seenOrPrivate(Member member) {
        int modifiers = member.getModifiers();
        Check.is(member + " is public or private", Modifier.isPublic(modifiers) || Modifier.isPrivate(modifiers) || member.isSynthetic(), true);
    }
}
