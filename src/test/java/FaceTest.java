import java.io.IOException;
import java.lang.reflect.Constructor;
import java.lang.reflect.Field;
import java.lang.reflect.Method;
import java.lang.reflect.Modifier;
import java.nio.charset.StandardCharsets;
import java.nio.file.Files;
import java.nio.file.Path;
import java.util.Arrays;
import java.util.TreeSet;
import java.util.regex.Matcher;
import java.util.regex.Pattern;
import java.util.stream.Collectors;

/** The class has the constants, constructor and methods of the document, and no other member to be seen; -Ddoc names it. */
public final class FaceTest {
    private static final String[] METHODS = {
        "int net(int,int)",
        "boolean join(int,int,int,int,int) NoSuchElementException",
        "int leads(int,int,int) NoSuchElementException",
        "boolean mark(int,int,boolean) NoSuchElementException",
        "int alike(int,int) NoSuchElementException",
        "int walk(int) NoSuchElementException",
        "boolean set(int,int,int,int) NoSuchElementException IllegalArgumentException",
        "void spread(int,int) NoSuchElementException IllegalArgumentException",
        "int step(int,int) NoSuchElementException IllegalArgumentException",
        "int back(int,int) NoSuchElementException IllegalArgumentException",
        "long at(int,int,int) NoSuchElementException",
        "long share(int,int) NoSuchElementException",
        "int of(int,int) NoSuchElementException",
        "int arrives(int,int,int) NoSuchElementException IllegalArgumentException",
        "int returns(int,int) NoSuchElementException IllegalArgumentException",
        "int best(int,int) NoSuchElementException IllegalArgumentException",
        "long mean(int,int,int) NoSuchElementException IllegalArgumentException",
        "void copy(int,int) NoSuchElementException IllegalArgumentException",
        "int count(int) NoSuchElementException",
    };
    private static final Due due = new Due();

    public static void main(String[] args) throws IOException {
        Class<WaveWalk> face = WaveWalk.class;
        due.is("public and final", face.getModifiers(), Modifier.PUBLIC | Modifier.FINAL);
        due.isTrue("no class above it", face.getSuperclass() == Object.class && face.getInterfaces().length == 0);
        methods(face);
        constructors(face);
        fields(face);
        for (Class<?> inside : face.getDeclaredClasses()) {
            int m = inside.getModifiers();
            due.isTrue(inside + " is static", Modifier.isStatic(m));
            due.isFalse(inside + " is public or protected", Modifier.isPublic(m) || Modifier.isProtected(m));
            for (Method each : inside.getDeclaredMethods()) {
                String start = " " + each.getName() + "(";
                due.isFalse(each + " is named like the face", Arrays.stream(METHODS).anyMatch(x -> x.contains(start)));
            }
        }
        Path document = Path.of(System.getProperty("doc", "../shared/DOC.md"));
        if (Files.isReadable(document)) {
            sameAsIn(Files.readString(document, StandardCharsets.UTF_8));
        } else {
            System.out.println("There is no " + document + ": the face was not compared with it.");
        }
        due.end();
    }

    /** What is listed here is what the document lists, both in its face and at its promises. */
    private static void sameAsIn(String document) {
        TreeSet<String> want = new TreeSet<>(Arrays.asList(METHODS));
        TreeSet<String> listed = headsIn("(?m)^    public (\\w+ \\w+)\\(([^)]*)\\)(?: throws ([^;]*))?;$", document);
        due.isTrue("the document's face has " + listed, listed.equals(want));
        TreeSet<String> promised = headsIn("(?m)^`(\\w+ \\w+)\\(([^)]*)\\)(?: throws ([^`]*))?`: ", document);
        due.isTrue("the document's promises have " + promised, promised.equals(want));
        due.isTrue("the document's constructor", document.contains("    public WaveWalk();\n"));
        Matcher constants = Pattern.compile("(?m)^    public static final .*$").matcher(document);
        while (constants.find()) {
            due.isTrue(constants.group(), constants.group().equals("    public static final int NONE = -1;"));
        }
    }

    private static TreeSet<String> headsIn(String form, String document) {
        TreeSet<String> heads = new TreeSet<>();
        Matcher m = Pattern.compile(form).matcher(document);
        while (m.find()) {
            String takes = m.group(2).replaceAll(" \\w+(, )?", ",").replaceAll(",$", "");
            String ends = m.group(3) == null ? "" : " " + m.group(3).replace(",", "");
            heads.add(m.group(1) + "(" + takes + ")" + ends);
        }
        return heads;
    }

    private static void methods(Class<?> face) {
        TreeSet<String> seen = new TreeSet<>();
        TreeSet<String> names = new TreeSet<>();
        for (Method m : face.getDeclaredMethods()) {
            if (!Modifier.isPrivate(m.getModifiers()) && !m.isSynthetic()) {
                due.is(m + " is public alone", m.getModifiers(), Modifier.PUBLIC);
                seen.add(described(m));
                names.add(m.getName());
            }
        }
        TreeSet<String> want = new TreeSet<>(Arrays.asList(METHODS));
        due.isTrue("methods are " + seen + ", due are " + want, seen.equals(want));
        for (Method m : face.getDeclaredMethods()) {
            boolean hidden = Modifier.isPrivate(m.getModifiers());
            due.isFalse("a private method is named " + m.getName(), hidden && names.contains(m.getName()));
        }
    }

    private static String described(Method m) {
        String takes = Arrays.stream(m.getParameterTypes()).map(Class::getName).collect(Collectors.joining(","));
        String ends = Arrays.stream(m.getExceptionTypes()).map(c -> " " + c.getSimpleName()).collect(Collectors.joining());
        return m.getReturnType() + " " + m.getName() + "(" + takes + ")" + ends;
    }

    private static void constructors(Class<?> face) {
        Constructor<?>[] all = face.getDeclaredConstructors();
        due.is("constructors", all.length, 1);
        due.is("it takes", all[0].getParameterCount(), 0);
        due.is("it is public", all[0].getModifiers(), Modifier.PUBLIC);
        due.is("it throws", all[0].getExceptionTypes().length, 0);
    }

    private static void fields(Class<?> face) {
        for (Field f : face.getDeclaredFields()) {
            if (f.getName().equals("NONE")) {
                due.is("NONE is a public constant", f.getModifiers(), Modifier.PUBLIC | Modifier.STATIC | Modifier.FINAL);
                due.isTrue("NONE is an int", f.getType() == int.class);
            } else {
                due.isTrue(f.getName() + " is private", Modifier.isPrivate(f.getModifiers()));
            }
        }
    }
}
