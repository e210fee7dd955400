import java.io.IOException;
import java.lang.reflect.Constructor;
import java.lang.reflect.Field;
import java.lang.reflect.Method;
import java.lang.reflect.Modifier;
import java.nio.file.Files;
import java.nio.file.Path;
import java.util.Set;
import java.util.TreeSet;
import java.util.regex.Matcher;
import java.util.regex.Pattern;

/** The public face is the document's, and the file holds nothing that LANGUAGE.md plainly rules out. */
public final class FaceTest {
    private static final String[] CONSTANTS = {"OK=0", "BADSHAPE=-2", "SEALED=-3", "NOROOM=-4", "BADROW=-5",
        "NEGATIVE=-6", "NOSTART=-7", "ZEROROW=-8", "NO=0", "YES=1"};
    private static final String[] METHODS = {"boolean beginNumber(int)", "boolean limb(int)",
        "boolean endCoefficient()", "int endConstraint()", "boolean sealInput()", "boolean combineStart()",
        "int combineAdd(int)", "int combineEnd()", "int divideRound(int)", "boolean refuted()", "int rowCount()",
        "boolean evalStart()", "boolean evalPoint(int)", "int evalSatisfied()",
        "int cell(int,int,int) throws java.lang.IllegalArgumentException",
        "int count(int) throws java.lang.IllegalArgumentException"};
    private static final String[] RULED_OUT = {"->", "::", "\\bsynchronized\\b", "\\bassert\\b", "\\bfinally\\b",
        "\\btry\\b", "\\bprotected\\b", "\\bpackage\\b", "Exact\\b", "\\bstatic\\s*\\{", "\\bimport (?!java\\.util\\.Arrays;)",
        "\\bSystem\\.(?!arraycopy\\b)", "\\bArrays\\.(?!fill\\b|copyOf\\b|copyOfRange\\b)",
        "\\bMath\\.(?!max\\b|min\\b|abs\\b|floorDiv\\b|floorMod\\b)", "\\bdouble\\b", "\\bfloat\\b", "[^\\x00-\\x7f]"};

    public static void main(String[] args) throws Exception {
        theFace();
        theClassesInside();
        theSource();
        Check.end();
    }

    private static void theFace() throws IllegalAccessException {
        int modifiers = CutRows.class.getModifiers();
        Check.due("public and final", Modifier.isPublic(modifiers) && Modifier.isFinal(modifiers), true);
        Set<String> found = new TreeSet<>();
        for (Field field : CutRows.class.getDeclaredFields()) {
            if (!Modifier.isPrivate(field.getModifiers())) {
                found.add(Modifier.toString(field.getModifiers()) + " " + field.getType() + " " + field.getName() + "=" + field.getInt(null));
            }
        }
        same("constants", found, "public static final int ", CONSTANTS);
        found = new TreeSet<>();
        for (Method method : CutRows.class.getDeclaredMethods()) {
            if (!Modifier.isPrivate(method.getModifiers())) {
                found.add(method.toString().replace("CutRows.", ""));
            }
        }
        same("methods", found, "public ", METHODS);
        found = new TreeSet<>();
        for (Constructor<?> constructor : CutRows.class.getDeclaredConstructors()) {
            found.add(constructor.toString());
        }
        same("constructors", found, "", "public CutRows(int,int,int)");
    }

    private static void same(String what, Set<String> found, String prefix, String... wanted) {
        Set<String> want = new TreeSet<>();
        for (String one : wanted) {
            want.add(prefix + one);
        }
        boolean equal = found.equals(want);
        if (!equal) {
            System.out.println(what + ": " + found);
        }
        Check.due(what + " are the document's", equal, true);
    }

    private static void theClassesInside() {
        Set<String> publicNames = new TreeSet<>();
        for (Method method : CutRows.class.getMethods()) {
            publicNames.add(method.getName());
        }
        for (Class<?> inside : CutRows.class.getDeclaredClasses()) {
            int modifiers = inside.getModifiers();
            Check.due(inside + " is static", Modifier.isStatic(modifiers), true);
            Check.due(inside + " is public or protected", Modifier.isPublic(modifiers) || Modifier.isProtected(modifiers), false);
            for (Method method : inside.getDeclaredMethods()) {
                Check.due(method + " bears a public name", publicNames.contains(method.getName()), false);
                Check.due(method + " has few parameters", method.getParameterCount() <= 7, true);
            }
        }
        for (Method method : CutRows.class.getDeclaredMethods()) {
            boolean hidden = Modifier.isPrivate(method.getModifiers());
            Check.due(method + " bears a public name", hidden && publicNames.contains(method.getName()), false);
        }
    }

    private static void theSource() throws IOException {
        String source = Files.readString(Path.of("src/main/java/CutRows.java"));
        String code = source.replaceAll("(?s)/\\*.*?\\*/", "").replaceAll("//[^\n]*", "").replaceAll("\"[^\"\n]*\"", "\"\"");
        for (String pattern : RULED_OUT) {
            Matcher matcher = Pattern.compile(pattern).matcher(code);
            Check.due("the file holds " + pattern, matcher.find(), false);
        }
        Matcher throwing = Pattern.compile("\\bthrow (?!new IllegalArgumentException\\(\"\"\\);)").matcher(code);
        Check.due("another exception is thrown", throwing.find(), false);
    }
}
