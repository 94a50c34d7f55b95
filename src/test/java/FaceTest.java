import java.io.IOException;
import java.lang.reflect.Constructor;
import java.lang.reflect.Field;
import java.lang.reflect.Method;
import java.lang.reflect.Modifier;
import java.nio.file.Files;
import java.nio.file.Path;
import java.util.Set;
import java.util.TreeSet;

/** The public face: exactly the constants, the constructor and the methods of the document. */
public final class FaceTest {
    private static final Path DOCUMENT = Path.of("../shared/DOC.md");
    private static final String[] CONSTANTS = {"RAN 0", "AGAIN 1", "NOPROCEDURE 2", "GARBAGE 3",
        "ACCEPTED 4", "STALE 5", "PENDING 3", "NONE -1", "BROKEN -2", "WRONG -3", "BAD -4", "FULL -5"};
    private static final String[] METHODS = {
        "public int OnceWire.field(int,int,boolean)", "public boolean OnceWire.put(int,int)",
        "public void OnceWire.reset()", "public int OnceWire.call(int)", "public int OnceWire.tick()",
        "public int OnceWire.deliver(int)", "public boolean OnceWire.lose(int)",
        "public boolean OnceWire.copy(int)", "public boolean OnceWire.add(int)",
        "public int OnceWire.hand(boolean)", "public int OnceWire.total()",
        "public int OnceWire.runs()", "public int OnceWire.status(int)",
        "public int OnceWire.result(int)", "public int OnceWire.flight()",
        "public int OnceWire.size(int)", "public int OnceWire.byteAt(int,int)"};
    private static final Due DUE = new Due();

    public static void main(String[] args) throws ReflectiveOperationException, IOException {
        DUE.same("public final", OnceWire.class.getModifiers(), Modifier.PUBLIC | Modifier.FINAL);
        DUE.of("The constants: `PENDING = 3`, `NONE = -1`, `BROKEN = -2`, `WRONG = -3`, `BAD = -4`,"
                + " `FULL = -5`: The status of a pending call.");
        alike("constants", constants(), Set.of(CONSTANTS));
        OnceWire x = new OnceWire(0);
        x.call(0);
        DUE.same("the status of a pending call", x.status(0), OnceWire.PENDING);
        DUE.of("");
        alike("methods", methods(), Set.of(METHODS));
        Constructor<?>[] made = OnceWire.class.getDeclaredConstructors();
        DUE.same("constructors", made.length, 1);
        DUE.yes("constructor", made[0].toString().equals("public OnceWire(int)"));
        for (Class<?> inside : OnceWire.class.getDeclaredClasses()) {
            int how = inside.getModifiers();
            DUE.yes(inside + " is static and not open", Modifier.isStatic(how)
                    && !Modifier.isPublic(how) && !Modifier.isProtected(how));
        }
        document();
        DUE.end();
    }

    /** The lists above say what the document's code block says, names of parameters left out. */
    private static void document() throws IOException {
        if (!Files.exists(DOCUMENT)) {
            System.out.println("there is no " + DOCUMENT + " to hold the face against");
            return;
        }
        Set<String> told = new TreeSet<>();
        String block = Files.readString(DOCUMENT).split("```java\n", 2)[1].split("```", 2)[0];
        for (String line : block.split("\n")) {
            told.add(line.strip().replaceAll("(int|boolean) \\w+(, |\\))", "$1$2"));
        }
        Set<String> listed = new TreeSet<>(Set.of("public final class OnceWire {", "}",
                "public OnceWire(int);"));
        for (String constant : CONSTANTS) {
            listed.add("public static final int " + constant.replace(" ", " = ") + ";");
        }
        for (String method : METHODS) {
            listed.add(method.replace("OnceWire.", "").replace(",", ", ") + ";");
        }
        alike("the document's face", listed, told);
    }

    private static Set<String> constants() throws IllegalAccessException {
        Set<String> found = new TreeSet<>();
        for (Field field : OnceWire.class.getDeclaredFields()) {
            if (!Modifier.isPrivate(field.getModifiers())) {
                DUE.yes(field + " is public static final int", field.toString()
                        .equals("public static final int OnceWire." + field.getName()));
                found.add(field.getName() + " " + field.getInt(null));
            }
        }
        return found;
    }

    private static Set<String> methods() {
        Set<String> found = new TreeSet<>();
        for (Method method : OnceWire.class.getDeclaredMethods()) {
            if (!Modifier.isPrivate(method.getModifiers())) {
                found.add(method.toString());
            }
        }
        return found;
    }

    private static void alike(String what, Set<String> got, Set<String> want) {
        if (!got.equals(want)) {
            System.out.println(what + ": " + new TreeSet<>(got) + ", due: " + new TreeSet<>(want));
        }
        DUE.yes(what, got.equals(want));
    }
}
