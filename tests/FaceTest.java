import java.io.IOException;
import java.lang.reflect.Constructor;
import java.lang.reflect.Field;
import java.lang.reflect.Method;
import java.lang.reflect.Modifier;
import java.nio.file.Files;
import java.nio.file.Path;
import java.util.Set;
import java.util.TreeSet;

/** The public face of the class, and those rules of LANGUAGE.md that can be seen from outside. */
public final class FaceTest extends Checks {
    private static final Set<String> FACE = Set.of("int pass(int)", "int move(int,int)", "boolean load(int,boolean)",
        "int allow(int,int,int,int)", "int forbid(int,int,int)", "int send(int,int,int,int)", "boolean keep(int,int)",
        "int greet(int,int)", "int deliver(int)", "int lose(int)", "int twice(int)", "int turn(int,int,int)",
        "int reroute(int,int)", "int later(int)", "int now()", "int letters()", "int letter(int,int)",
        "boolean isTurned(int)", "int address(int)", "int known(int,int)", "int route(int,int)",
        "int session(int,int,int,int)", "boolean isUsable(int,int)", "int flight(int,int)", "int waiting(int,int)",
        "int cookie(int,int)", "int stamp(int,int,boolean)", "int outs(int)", "int out(int,int,int)",
        "int drops(int)", "int publicOf(int)", "int shared(int,int)", "int seal(int,int,int,int)", "float share()",
        "double meanAge()", "boolean isSound()", "long checksum()");

    private static String told(Method m) {
        StringBuilder s = new StringBuilder(m.getReturnType().getSimpleName()).append(' ').append(m.getName());
        s.append('(');
        for (Class<?> type : m.getParameterTypes()) {
            s.append(s.charAt(s.length() - 1) == '(' ? "" : ",").append(type.getSimpleName());
        }
        return s.append(')').toString();
    }

    private static void checkMethods() {
        Set<String> face = new TreeSet<>();
        Set<String> publicNames = new TreeSet<>();
        for (Method m : Burrowline.class.getDeclaredMethods()) {
            if (Modifier.isPublic(m.getModifiers())) {
                face.add(told(m));
                publicNames.add(m.getName());
                is(m + " is no static method and throws nothing checked",
                    !Modifier.isStatic(m.getModifiers()) && m.getExceptionTypes().length == 0);
            }
        }
        is("the face is " + FACE + ", not " + face, face.equals(FACE));
        for (Method m : Burrowline.class.getDeclaredMethods()) {
            boolean isPublic = Modifier.isPublic(m.getModifiers());
            is(m + " is public or private", isPublic || Modifier.isPrivate(m.getModifiers()) || m.isSynthetic());
            is(m + " has a name of its own", isPublic || !publicNames.contains(m.getName()));
            is(m + " takes at most seven", m.getParameterCount() <= 7);
        }
    }

    private static void checkTheRest() throws IOException {
        is("public and final", (Burrowline.class.getModifiers() & (Modifier.PUBLIC | Modifier.FINAL)) == 17);
        Constructor<?>[] makers = Burrowline.class.getDeclaredConstructors();
        is("one public constructor without arguments", makers.length == 1 && makers[0].getParameterCount() == 0
            && Modifier.isPublic(makers[0].getModifiers()));
        for (Field f : Burrowline.class.getDeclaredFields()) {
            boolean isNone = f.getName().equals("NONE");
            is(f + " is private, but for NONE", isNone ? f.getModifiers() == 25 : Modifier.isPrivate(f.getModifiers()));
            is(f + " is final, if static", !Modifier.isStatic(f.getModifiers()) || Modifier.isFinal(f.getModifiers()));
        }
        Class<?>[] inside = Burrowline.class.getDeclaredClasses();
        is("at most twelve classes", inside.length < 12);
        for (Class<?> c : inside) {
            is(c + " is static and not public", Modifier.isStatic(c.getModifiers()) && !Modifier.isPublic(c.getModifiers()));
        }
        for (String line : Files.readAllLines(Path.of("src/main/java/Burrowline.java"))) {
            String code = line.strip();
            is("an import that is not listed: " + code, !code.startsWith("import ")
                || code.equals("import java.util.ArrayList;") || code.equals("import java.util.NoSuchElementException;"));
            for (String ban : new String[] {"->", "::", "catch", "finally", "synchronized", "assert ", "package "}) {
                is(ban + " stands in: " + code, code.startsWith("/") || !code.contains(ban));
            }
        }
    }

    public static void main(String[] args) throws IOException {
        checkMethods();
        checkTheRest();
        finish();
    }
}
