import java.lang.reflect.Field;
import java.lang.reflect.Method;
import java.lang.reflect.Modifier;
import java.nio.file.Files;
import java.nio.file.Path;
import java.util.ArrayList;
import java.util.List;
import java.util.TreeSet;
import java.util.regex.Matcher;
import java.util.regex.Pattern;

/** The public face, and the rules of LANGUAGE.md that can be seen from outside or in the letters of the file. */
public final class FaceTest {
    private static final Due due = new Due();
    private static final String[] METHODS = {
        "int rooms(int,int,int)", "int mend(int,int,int)", "int of(int,int)", "int feed(int)", "int law()", "int press(int)",
        "int later(int,int,int)", "int dark(int,int)", "long map(int)", "int falls(int)", "int still()", "int enough(int,int)",
        "int stubs(int,int,int)", "int wayIn(int,int)", "int round(int,int,int)", "int judge(int)", "int draughts(int,int,int)",
        "int holds(int,int)", "int byTurns(int,int)", "int drawn(int,int,int)", "int hour()", "int stub(int,int)", "int blow(int)",
        "int song(int)", "int led(int)", "int image()", "int back()", "int undo()", "int redo()", "int body(int)",
        "int act(int,int,int)", "int trace(int)", "int keep(int,int)", "int row(int,int,int)", "int put(int,int,long)",
        "long element(int,int)", "int shift(int,int,int,int,int)", "int taken(int,int)", "int count(int)"};

    public static void main(String[] args) throws Exception {
        face();
        nested();
        String source = Files.readString(Path.of("src/main/java/NightGarrison.java"));
        String code = source.replaceAll("(?s)/\\*.*?\\*/", "").replaceAll("//[^\\n]*", "");
        words(code);
        calls(code);
        due.end();
    }

    private static String told(Method m) {
        List<String> types = new ArrayList<>();
        for (Class<?> c : m.getParameterTypes()) {
            types.add(c.getName());
        }
        return m.getReturnType().getName() + " " + m.getName() + "(" + String.join(",", types) + ")";
    }

    private static void face() throws Exception {
        due.part("the face");
        Class<?> c = NightGarrison.class;
        due.isTrue("public and final", Modifier.isPublic(c.getModifiers()) && Modifier.isFinal(c.getModifiers()));
        due.is("constructors", c.getDeclaredConstructors().length, 1);
        due.isTrue("a public constructor", Modifier.isPublic(c.getDeclaredConstructor().getModifiers()));
        TreeSet<String> want = new TreeSet<>(List.of(METHODS));
        TreeSet<String> got = new TreeSet<>();
        TreeSet<String> names = new TreeSet<>();
        for (Method m : c.getDeclaredMethods()) {
            if (Modifier.isPublic(m.getModifiers())) {
                got.add(told(m));
                names.add(m.getName());
            }
        }
        due.isTrue("methods " + got + " as " + want, got.equals(want));
        for (Method m : c.getDeclaredMethods()) {
            boolean isPrivate = Modifier.isPrivate(m.getModifiers());
            due.isTrue(m + " is public or private", Modifier.isPublic(m.getModifiers()) || isPrivate);
            due.isTrue(m + " is no public one's namesake", !isPrivate || !names.contains(m.getName()));
        }
        TreeSet<String> constants = new TreeSet<>();
        for (Field f : c.getDeclaredFields()) {
            if (!Modifier.isPrivate(f.getModifiers())) {
                constants.add(f.getName());
                due.isTrue(f + " is a constant", Modifier.toString(f.getModifiers()).equals("public static final"));
            }
        }
        due.isTrue("constants " + constants, constants.equals(new TreeSet<>(List.of("BAD", "NOT", "FULL", "STATE", "VOID"))));
        due.is("VOID", NightGarrison.VOID, -2000000000);
    }

    private static void nested() {
        due.part("the classes inside");
        Class<?>[] all = NightGarrison.class.getDeclaredClasses();
        due.isTrue("at most twelve in all", all.length <= 12);
        for (Class<?> c : all) {
            int m = c.getModifiers();
            due.isTrue(c + " is static, not public", Modifier.isStatic(m) && !Modifier.isPublic(m) && !Modifier.isProtected(m));
            int own = 0;
            for (Field f : c.getDeclaredFields()) {
                boolean isStatic = Modifier.isStatic(f.getModifiers());
                due.isTrue(f + " is final if static", !isStatic || Modifier.isFinal(f.getModifiers()));
                own += isStatic ? 0 : 1;
            }
            due.isTrue(c + " has some twenty fields", own <= 20);
            for (Method method : c.getDeclaredMethods()) {
                due.isTrue(method + " has seven parameters at most", method.getParameterCount() <= 7);
            }
        }
    }

    private static void words(String code) {
        due.part("the letters");
        for (String word : new String[] {"throw", "throws", "try", "catch", "synchronized", "assert", "import", "package",
            "protected", "native", "volatile", "Object", "Exception", "hashCode", "toString", "float", "double"}) {
            due.isTrue("no " + word, !Pattern.compile("\\b" + word + "\\b").matcher(code).find());
        }
        due.isTrue("no lambda, no method reference", !code.contains("->") && !code.contains("::"));
        due.isTrue("signs 1 to 127", code.chars().allMatch(ch -> ch >= 1 && ch < 128));
    }

    private static void calls(String code) {
        due.part("the library");
        TreeSet<String> allowed = new TreeSet<>(List.of("Math.min", "Math.max", "Long.bitCount", "System.arraycopy"));
        Matcher m = Pattern.compile("\\b(Math|Long|Integer|System|String|Arrays|List)\\.(\\w+)").matcher(code);
        while (m.find()) {
            due.isTrue(m.group() + " is on the list", allowed.contains(m.group()));
        }
    }
}
