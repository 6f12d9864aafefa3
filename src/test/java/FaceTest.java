import java.lang.reflect.Field;
import java.lang.reflect.Method;
import java.lang.reflect.Modifier;
import java.nio.file.Files;
import java.nio.file.Path;
import java.util.List;
import java.util.Set;
import java.util.TreeSet;

/** The public face, and those rules of LANGUAGE.md that a program can look at. Run it from the project's directory. */
public final class FaceTest {
    private static final String[] FACE = {"int sign(int)", "boolean end(int)", "int land()", "int goers()",
        "int rule()", "int field(int,int)!", "int goer(int,int)!", "int hard(int,int)", "int use(int)",
        "int sheet(int,int,int,int)", "int nights(int)", "int lock(int)", "int build(int,int)", "int grant(int,int)",
        "int divert(int,int)", "int year()", "int undo()", "int path(int)", "int blocked()", "int detour(int,int)",
        "long vital(int)", "int cut(int)", "int frees()", "int busiest()", "int meets(int,int)", "long reach(int)",
        "int better(int)", "int gate()", "int claims(int)", "int later(int)", "int alters(int)", "int deepest(int)",
        "int print(int,int)", "int forget()", "int fits()", "int look()", "int gates(int)", "int goes(int,int,int)",
        "int crowd()", "int rests(int)", "int law()", "int years(int,int)", "boolean keep(int)", "boolean again(int)",
        "int count(int)", "long row(int)!"};
    private static final String[] RULED_OUT = {"->", "::", "finally", "synchronized", "assert", "Exact(", "catch",
        "try {", "import java.util.A", "import java.util.L", "Random", "System.out", "System.nano", "Thread",
        "static {", "MAX_VALUE", "package "};
    private static int wrong = 0;

    private static void must(boolean is, String what) {
        if (!is) {
            wrong++;
            System.out.println(what);
        }
    }

    private static String shape(Method m) {
        StringBuilder b = new StringBuilder(m.getReturnType().getName()).append(' ').append(m.getName()).append('(');
        String between = "";
        for (Class<?> p : m.getParameterTypes()) {
            b.append(between).append(p.getName());
            between = ",";
        }
        return b.append(')').append(m.getExceptionTypes().length > 0 ? "!" : "").toString();
    }

    private static void lookAtFace() {
        Class<?> face = BuriedWithIt.class;
        Set<String> want = new TreeSet<>(List.of(FACE));
        Set<String> got = new TreeSet<>();
        Set<String> names = new TreeSet<>();
        for (Method m : face.getDeclaredMethods()) {
            if (Modifier.isPublic(m.getModifiers())) {
                got.add(shape(m));
                names.add(m.getName());
            } else {
                must(Modifier.isPrivate(m.getModifiers()), "neither public nor private: " + m);
            }
        }
        must(want.equals(got), "the face is " + got);
        must(Modifier.isFinal(face.getModifiers()) && Modifier.isPublic(face.getModifiers()), "public and final");
        must(face.getDeclaredConstructors().length == 1 && face.getConstructors().length == 1, "one constructor");
        lookAtClass(face, names);
        Class<?>[] inside = face.getDeclaredClasses();
        must(inside.length <= 12, "classes: " + inside.length);
        for (Class<?> c : inside) {
            must(Modifier.isStatic(c.getModifiers()) && !Modifier.isPublic(c.getModifiers()), "static, not public: " + c);
            lookAtClass(c, names);
        }
    }

    private static void lookAtClass(Class<?> c, Set<String> publicNames) {
        int fields = 0;
        for (Field f : c.getDeclaredFields()) {
            boolean constant = Modifier.isStatic(f.getModifiers());
            fields += constant ? 0 : 1;
            must(!constant || Modifier.isFinal(f.getModifiers()), "static, not final: " + f);
            must(Modifier.isPrivate(f.getModifiers()) || f.getName().equals("NONE"), "not private: " + f);
        }
        must(fields <= 20, "fields of " + c + ": " + fields);
        for (Method m : c.getDeclaredMethods()) {
            must(m.getParameterCount() <= 7, "parameters of " + m);
            boolean isPublic = Modifier.isPublic(m.getModifiers());
            must(isPublic || !publicNames.contains(m.getName()), "the name of a public one: " + m);
        }
    }

    private static void lookAtText() throws java.io.IOException {
        List<String> lines = Files.readAllLines(Path.of("src/main/java/BuriedWithIt.java"));
        for (int i = 0; i < lines.size(); i++) {
            String line = lines.get(i);
            for (String no : RULED_OUT) {
                must(!line.contains(no), "line " + (i + 1) + " has " + no);
            }
            must(line.chars().allMatch(c -> c < 128), "line " + (i + 1) + " has a sign above 127");
            String inner = line.trim();
            boolean opens = inner.startsWith("private ") || inner.startsWith("public ");
            if (opens && inner.endsWith("{") && inner.contains("(")) {
                String close = line.substring(0, line.length() - inner.length()) + "}";
                int length = lines.subList(i, lines.size()).indexOf(close) + 1;
                must(length <= 60, "line " + (i + 1) + ": " + length + " lines");
            }
        }
    }

    public static void main(String[] args) throws java.io.IOException {
        lookAtFace();
        lookAtText();
        System.out.println(wrong == 0 ? "the face is as due" : wrong + " faults");
        if (wrong != 0) {
            System.exit(1);
        }
    }
}
