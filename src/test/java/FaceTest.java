import java.lang.reflect.Constructor;
import java.lang.reflect.Field;
import java.lang.reflect.Method;
import java.lang.reflect.Modifier;
import java.nio.file.Files;
import java.nio.file.Path;
import java.util.ArrayList;
import java.util.List;
import java.util.TreeSet;

/** The public face of the document, and those rules of LANGUAGE.md that a text search can see. */
public final class FaceTest {
    private static final String[] METHODS = {
        "int letters(long)", "int blank()", "int fault()", "int law()", "int lawTold(int)",
        "int person(int,int,int,int,int)", "int about(int,int)", "int as(int,int)", "int call(int,int)",
        "int write(int,int)", "int dies(int)", "int wrong(int)", "int mended(int)", "int ways()", "int sure(int)",
        "int laws(int)", "int near(int,int)", "int kin(int)", "int may(int,int)", "int couples(int)",
        "int lasts(int)", "int image()", "int restore()", "int count(int)", "long digest()"};
    private static final String[] CONSTANTS = {
        "NONE=-1", "GAP=-2", "UNKNOWN=-101", "OUTSIDE=-102", "STATE=-103", "FULL=-104"};
    private static final String[] NOT_THERE = {
        "\\bthrow\\b", "\\bthrows\\b", "\\btry\\b", "\\bcatch\\b", "\\bsynchronized\\b", "\\bassert\\b", "->", "::",
        "Exact\\b", "\\bimport\\b", "\\bpackage\\b", "\\bprotected\\b", "\\bRandom\\b", "\\bSystem\\.(?!arraycopy)",
        "\\bThread\\b", "\\bstatic\\s*\\{", "\\bObject\\b", "\\bvar\\b"};

    private static int failures = 0;

    private static void same(String what, TreeSet<String> got, TreeSet<String> want) {
        if (!got.equals(want)) {
            failures++;
            System.out.println(what + " are " + got + ", due are " + want);
        }
    }

    private static String signature(Method m) {
        List<String> types = new ArrayList<>();
        for (Class<?> c : m.getParameterTypes()) types.add(c.getName());
        return m.getReturnType().getName() + " " + m.getName() + "(" + String.join(",", types) + ")";
    }

    private static void face() throws IllegalAccessException {
        Class<?> c = OtherName.class;
        if (!Modifier.isFinal(c.getModifiers()) || !Modifier.isPublic(c.getModifiers())) {
            failures++;
            System.out.println("the class is not public and final");
        }
        TreeSet<String> methods = new TreeSet<>();
        TreeSet<String> publicNames = new TreeSet<>();
        for (Method m : c.getDeclaredMethods()) {
            if (!Modifier.isPrivate(m.getModifiers())) {
                methods.add((Modifier.isPublic(m.getModifiers()) ? "" : "not public ") + signature(m));
                publicNames.add(m.getName());
            }
        }
        same("methods", methods, new TreeSet<>(List.of(METHODS)));
        TreeSet<String> constants = new TreeSet<>();
        for (Field f : c.getDeclaredFields()) {
            if (!Modifier.isPrivate(f.getModifiers())) constants.add(f.getName() + "=" + f.getInt(null));
        }
        same("constants", constants, new TreeSet<>(List.of(CONSTANTS)));
        for (Constructor<?> k : c.getDeclaredConstructors()) {
            if (!Modifier.isPublic(k.getModifiers()) || k.getParameterCount() != 0) {
                failures++;
                System.out.println("a constructor that is not due: " + k);
            }
        }
        noPrivateNamesake(c, publicNames);
        for (Class<?> inside : c.getDeclaredClasses()) noPrivateNamesake(inside, publicNames);
    }

    private static void noPrivateNamesake(Class<?> c, TreeSet<String> publicNames) {
        for (Method m : c.getDeclaredMethods()) {
            boolean ofFace = c == OtherName.class && Modifier.isPublic(m.getModifiers());
            if (!ofFace && publicNames.contains(m.getName())) {
                failures++;
                System.out.println(c.getName() + " has a method of a public one's name: " + m.getName());
            }
        }
    }

    private static void fault(boolean is, String what) {
        if (is) {
            failures++;
            System.out.println(what);
        }
    }

    /** Rules 2, 5 and 11: classes inside are static, static fields final, fields and parameters few. */
    private static void sizes(Class<?> c) {
        fault(c != OtherName.class && !Modifier.isStatic(c.getModifiers()), c.getName() + " is not static");
        int fields = 0;
        for (Field f : c.getDeclaredFields()) {
            boolean ofClass = Modifier.isStatic(f.getModifiers());
            fault(ofClass && !Modifier.isFinal(f.getModifiers()), f + " is not final");
            fields += ofClass ? 0 : 1;
        }
        fault(fields > 20, c.getName() + " has " + fields + " fields");
        for (Method m : c.getDeclaredMethods()) {
            fault(m.getParameterCount() > 7, m + " has more than seven parameters");
        }
        for (Class<?> inside : c.getDeclaredClasses()) sizes(inside);
    }

    /** Rule 11: a method goes from its head, which a brace ends, to a brace as far in as the head is. */
    private static void methodsAreShort(String code) {
        String[] lines = code.split("\n");
        for (int i = 0; i < lines.length; i++) {
            if (!lines[i].matches(" +[a-z][\\w\\[\\]. ]* \\w+\\(.*\\) \\{") || lines[i].matches(" +(if|for|while|switch|return|else)\\b.*")) continue;
            String end = lines[i].substring(0, lines[i].length() - lines[i].stripLeading().length()) + "}";
            int last = i;
            while (last < lines.length - 1 && !lines[last].equals(end)) last++;
            fault(last - i > 60, "a method of " + (last - i) + " lines: " + lines[i].strip());
        }
    }

    private static void language() throws java.io.IOException {
        String text = Files.readString(Path.of("src/main/java/OtherName.java"));
        String code = text.replaceAll("(?s)/\\*.*?\\*/", " ").replaceAll("//[^\\n]*", " ");
        for (String pattern : NOT_THERE) {
            if (java.util.regex.Pattern.compile(pattern).matcher(code).find()) {
                failures++;
                System.out.println("the source has " + pattern);
            }
        }
        fault(code.split("\\bclass\\b").length - 1 > 12, "more than twelve classes");
        methodsAreShort(code);
        sizes(OtherName.class);
    }

    public static void main(String[] args) throws Exception {
        face();
        language();
        System.out.println(failures == 0 ? "the face is as told" : failures + " faults of the face");
        if (failures != 0) System.exit(1);
    }
}
