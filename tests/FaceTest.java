import java.io.IOException;
import java.lang.reflect.Constructor;
import java.lang.reflect.Field;
import java.lang.reflect.Method;
import java.lang.reflect.Modifier;
import java.nio.file.Files;
import java.nio.file.Path;
import java.util.ArrayList;
import java.util.Arrays;
import java.util.List;
import java.util.TreeSet;
import java.util.regex.Matcher;
import java.util.regex.Pattern;

/** The class has the document's public face and nothing beside it; some of LANGUAGE.md's rules, as far as a text tells. */
public final class FaceTest {
    private static final String[] FACE = {
        "int road(int,int,int)", "int person(int,int)", "int oil(int,int)", "int of(int,int)",
        "int work(int,int,int,int,int)", "int at(int,int)", "int terms(int,int)", "int feed(int,int,int,int,int)",
        "int end(int)", "int row()", "int dust()", "int law()", "int orders()", "int fault()", "int stopped()",
        "int force(int)", "int asks(int,int)", "int wind(int)", "int key(int,int)", "int run()", "int mend(int)",
        "int undo()", "int hour(int,int,int)", "int ends(int,int,int)", "int day(int,int)", "int least(int)",
        "int orderly(int,int,int)", "int little(int,int)", "int lasts(int)", "long odds(int,int)",
        "int sight(int,int,int)", "int forget()", "int fits()", "int guards(int)", "int round(int,int)",
        "int game(int)", "int decade(int,int)", "int drawn(int)", "int image(int)", "int back(int)",
        "int count(int)", "int status()"};

    public static void main(String[] args) throws IOException {
        face();
        nested(WoundTown.class);
        language();
        Due.finish();
    }

    private static String told(Method m) {
        StringBuilder text = new StringBuilder(m.getReturnType().getSimpleName() + " " + m.getName() + "(");
        for (Class<?> type : m.getParameterTypes()) text.append(text.toString().endsWith("(") ? "" : ",").append(type);
        return text.append(")").toString();
    }

    private static void face() {
        Class<?> c = WoundTown.class;
        Due.due("public final", c.getModifiers(), Modifier.PUBLIC | Modifier.FINAL);
        Due.due("NONE", WoundTown.NONE, -1);
        TreeSet<String> want = new TreeSet<>(Arrays.asList(FACE));
        TreeSet<String> got = new TreeSet<>();
        TreeSet<String> names = new TreeSet<>();
        for (Method m : c.getDeclaredMethods()) {
            if (Modifier.isPublic(m.getModifiers())) {
                Due.due(m + " is no static method", m.getModifiers(), Modifier.PUBLIC);
                got.add(told(m));
                names.add(m.getName());
            }
        }
        Due.due("face: " + got, got.equals(want) ? 1 : 0, 1);
        for (Method m : c.getDeclaredMethods()) {
            if (!Modifier.isPublic(m.getModifiers())) {
                Due.due(m + " is private", Modifier.isPrivate(m.getModifiers()) ? 1 : 0, 1);
                Due.due(m + " has a name of its own", names.contains(m.getName()) ? 1 : 0, 0);
            }
        }
        int shown = 0;
        for (Field f : c.getDeclaredFields()) {
            if (!Modifier.isPrivate(f.getModifiers())) shown++;
        }
        Due.due("fields that are not private: NONE alone", shown, 1);
        int made = 0;
        for (Constructor<?> k : c.getDeclaredConstructors()) {
            made += Modifier.isPublic(k.getModifiers()) && k.getParameterCount() == 0 ? 1 : 100;
        }
        Due.due("one constructor", made, 1);
    }

    private static void nested(Class<?> c) {
        TreeSet<String> names = new TreeSet<>();
        for (String m : FACE) names.add(m.substring(m.indexOf(' ') + 1, m.indexOf('(')));
        Due.due("some twelve classes", c.getDeclaredClasses().length <= 12 ? 1 : 0, 1);
        for (Class<?> n : c.getDeclaredClasses()) {
            Due.due(n + " is static", Modifier.isStatic(n.getModifiers()) ? 1 : 0, 1);
            int fields = 0;
            for (Field f : n.getDeclaredFields()) {
                if (!Modifier.isStatic(f.getModifiers())) fields++;
                else Due.due(f + " is final", Modifier.isFinal(f.getModifiers()) ? 1 : 0, 1);
            }
            Due.due(n + " has some twenty fields: " + fields, fields <= 20 ? 1 : 0, 1);
            for (Method m : n.getDeclaredMethods()) {
                boolean asPublic = Modifier.isPrivate(m.getModifiers()) && names.contains(m.getName());
                Due.due(m + " has a name of its own", asPublic ? 1 : 0, 0);
                Due.due(m + " has seven parameters at most", m.getParameterCount() <= 7 ? 1 : 0, 1);
            }
        }
    }

    private static void language() throws IOException {
        String source = Files.readString(Path.of("src/main/java/WoundTown.java"));
        Matcher far = Pattern.compile("[^\\x09\\x0a\\x20-\\x7e]").matcher(source);
        Due.due("plain signs", far.find() ? 1 : 0, 0);
        String code = source.replaceAll("(?s)/\\*.*?\\*/", " ").replaceAll("//[^\n]*", " ")
                .replaceAll("\"[^\"\n]*\"", "\"\"").replaceAll("'[^'\n]'", "0");
        String[] banned = {"throw", "throws", "try", "catch", "finally", "synchronized", "assert", "instanceof", "record",
            "var", "volatile", "native", "equals", "hashCode", "toString", "Object", "System\\.out", "Random",
            "Thread", "interface", "enum", "transient", "strictfp", "goto", "package"};
        for (String word : banned) {
            Due.due("no " + word, Pattern.compile("\\b" + word + "\\b").matcher(code).find() ? 1 : 0, 0);
        }
        for (String sign : new String[] {"->", "::", "@"}) Due.due("no " + sign, code.contains(sign) ? 1 : 0, 0);
        List<String> imports = new ArrayList<>();
        Matcher m = Pattern.compile("import ([^;]*);").matcher(code);
        while (m.find()) imports.add(m.group(1));
        Due.due("imports " + imports, imports.equals(List.of("java.util.Arrays")) ? 1 : 0, 1);
        TreeSet<String> library = new TreeSet<>();
        m = Pattern.compile("\\b(System|Arrays|Math|Integer|Long|String|StringBuilder)\\.(\\w+)").matcher(code);
        while (m.find()) library.add(m.group());
        TreeSet<String> allowed = new TreeSet<>(List.of("System.arraycopy", "Arrays.fill", "Math.min", "Math.max",
                "Integer.bitCount"));
        Due.due("the library: " + library, allowed.containsAll(library) ? 1 : 0, 1);
    }
}
