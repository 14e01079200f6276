import java.lang.reflect.Constructor;
import java.lang.reflect.Field;
import java.lang.reflect.Method;
import java.lang.reflect.Modifier;
import java.nio.file.Files;
import java.nio.file.Path;
import java.util.TreeSet;

/** The public face is the document's, and the source keeps to what LANGUAGE.md can be asked by looking at it. */
public final class FaceTest {
    private static final String FACE = "int member(int,int);int of(int,int);int asks(int,int,int);int bill(int,int);"
            + "int terms(int,int);int feed(int,int,int,int,int);int end(int);int row();int feathers();int law();"
            + "int orders();int fault();int stopped();int force(int);int put(int);int go(int);int sway(int,int,int);"
            + "int pass();int undo();int votes(int,int);int best();int rings();int agenda(int,int);int power(int,int);"
            + "int pivot(int,int);int enough(int,int);int out(int,int);int first();int falsely(int,int);"
            + "int seen(int,int);int forget();int canBe();int ask(int);long few(int,int);int compare(int);"
            + "int sessions(int,int);int drawn(int,int);int image(int);int back(int);int count(int);int status()";
    private static final String[] BANNED = {"throw", "try ", "catch", "synchronized", "assert", "import", "finally", "->",
        "::", "Exact", "HashMap", "Object", "System.out", "random", "nanoTime", "protected"};
    private static int wrong = 0;

    private static void check(String what, boolean so) {
        if (!so) {
            wrong++;
            System.out.println(what);
        }
    }

    private static String shape(Method m) {
        StringBuilder s = new StringBuilder(m.getReturnType().getName()).append(' ').append(m.getName()).append('(');
        for (int i = 0; i < m.getParameterCount(); i++) {
            s.append(i == 0 ? "" : ",").append(m.getParameterTypes()[i].getName());
        }
        return s.append(')').toString();
    }

    private static void checkMethods() {
        TreeSet<String> due = new TreeSet<>();
        for (String one : FACE.split(";")) {
            due.add(one);
        }
        TreeSet<String> there = new TreeSet<>();
        TreeSet<String> names = new TreeSet<>();
        for (Method m : RookHouse.class.getDeclaredMethods()) {
            if (Modifier.isPublic(m.getModifiers())) {
                there.add(shape(m));
                names.add(m.getName());
                check("static: " + m, !Modifier.isStatic(m.getModifiers()));
            }
        }
        check("public methods are " + there + ", due are " + due, due.equals(there));
        for (Method m : RookHouse.class.getDeclaredMethods()) {
            if (!Modifier.isPublic(m.getModifiers())) {
                check("not private: " + m, Modifier.isPrivate(m.getModifiers()));
                check("bears a public name: " + m, !names.contains(m.getName()));
            }
        }
        for (Class<?> c : RookHouse.class.getDeclaredClasses()) {
            check("not static: " + c, Modifier.isStatic(c.getModifiers()));
            check("public: " + c, !Modifier.isPublic(c.getModifiers()));
            for (Method m : c.getDeclaredMethods()) {
                check("bears a public name: " + m, !names.contains(m.getName()));
                check("takes more than seven: " + m, m.getParameterCount() <= 7);
            }
        }
    }

    private static void checkFields() throws Exception {
        for (Field f : RookHouse.class.getDeclaredFields()) {
            boolean isNone = f.getName().equals("NONE");
            check("field " + f, isNone ? Modifier.isPublic(f.getModifiers()) : Modifier.isPrivate(f.getModifiers()));
            check("static and not final: " + f, !Modifier.isStatic(f.getModifiers()) || Modifier.isFinal(f.getModifiers()));
        }
        check("NONE", RookHouse.class.getField("NONE").getInt(null) == -1);
        Constructor<?>[] makers = RookHouse.class.getDeclaredConstructors();
        check("constructors", makers.length == 1 && Modifier.isPublic(makers[0].getModifiers()) && makers[0].getParameterCount() == 0);
        check("final class", Modifier.isFinal(RookHouse.class.getModifiers()));
    }

    private static void checkSource() throws Exception {
        String source = Files.readString(Path.of("src/main/java/RookHouse.java"));
        for (String word : BANNED) {
            check("the source has " + word, !source.contains(word));
        }
        for (int i = 0; i < source.length(); i++) {
            check("a sign at " + i, source.charAt(i) < 128);
        }
    }

    public static void main(String[] args) throws Exception {
        checkMethods();
        checkFields();
        checkSource();
        System.out.println(wrong == 0 ? "the face is as due" : wrong + " things are not as due");
        if (wrong != 0) {
            System.exit(1);
        }
    }
}
