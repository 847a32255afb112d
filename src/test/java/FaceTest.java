import java.io.IOException;
import java.lang.reflect.Constructor;
import java.lang.reflect.Field;
import java.lang.reflect.Method;
import java.lang.reflect.Modifier;
import java.nio.file.Files;
import java.nio.file.Path;
import java.util.TreeSet;
import java.util.regex.Matcher;
import java.util.regex.Pattern;

/** The public face as the document writes it, and the plainest of the rules of LANGUAGE.md. */
public final class FaceTest {
    private static final String[] FACE = {
        "public static final int NONE", "public static final int UNKNOWN", "public static final int OUTSIDE",
        "public static final int STATE", "public static final int FULL", "public CloseClocks()",
        "public int letter(int)", "public int blank()", "public int fault()", "public int net()", "public int set(int,int)",
        "public int rate(int,int)", "public int put(int,int)", "public int wrong(int,int,int)", "public int delay(int,int,int)",
        "public int go(int)", "public int node(int,int)", "public int link(int,int,int)", "public int hops(int,int)",
        "public int skew(int)", "public int spread(int)", "public int worst(int,int)", "public int image()",
        "public int restore()", "public int count(int)", "public long digest()"};
    private static final String[] FORBIDDEN = {"\\bthrows?\\b", "\\btry\\b", "\\bcatch\\b", "\\bfinally\\b", "\\bsynchronized\\b",
        "\\bassert\\b", "->", "::", "\\bpackage\\b", "\\bThread\\b", "\\bexit\\b", "\\bRandom\\b", "\\bObject\\b", "\\bvar\\b"};

    private static final Check CHECK = new Check();

    public static void main(String[] args) throws IOException {
        members();
        constants();
        source(Files.readString(Path.of("src/main/java/CloseClocks.java")));
        CHECK.end();
    }

    private static void members() {
        TreeSet<String> seen = new TreeSet<>();
        for (Field field : CloseClocks.class.getDeclaredFields()) {
            if (!Modifier.isPrivate(field.getModifiers())) {
                seen.add(Modifier.toString(field.getModifiers()) + " " + field.getType() + " " + field.getName());
            }
        }
        for (Constructor<?> made : CloseClocks.class.getDeclaredConstructors()) {
            seen.add(made.toString());
        }
        TreeSet<String> names = new TreeSet<>();
        for (Method method : CloseClocks.class.getDeclaredMethods()) {
            if (!Modifier.isPrivate(method.getModifiers())) {
                seen.add(method.toString().replace("CloseClocks.", ""));
                names.add(method.getName());
            }
        }
        for (Method method : CloseClocks.class.getDeclaredMethods()) {
            boolean hidden = Modifier.isPrivate(method.getModifiers());
            CHECK.due("private and public " + method.getName(), hidden && names.contains(method.getName()) ? 1 : 0, 0);
        }
        for (String member : FACE) {
            CHECK.due("has " + member, seen.remove(member) ? 1 : 0, 1);
        }
        CHECK.due("members beyond the face " + seen, seen.size(), 0);
        CHECK.due("public final", CloseClocks.class.getModifiers(), Modifier.PUBLIC | Modifier.FINAL);
        for (Class<?> inside : CloseClocks.class.getDeclaredClasses()) {
            CHECK.due("static " + inside, Modifier.isStatic(inside.getModifiers()) ? 1 : 0, 1);
        }
    }

    private static void constants() {
        CHECK.due("NONE", CloseClocks.NONE, -100000001);
        CHECK.due("UNKNOWN", CloseClocks.UNKNOWN, -100000002);
        CHECK.due("OUTSIDE", CloseClocks.OUTSIDE, -100000003);
        CHECK.due("STATE", CloseClocks.STATE, -100000004);
        CHECK.due("FULL", CloseClocks.FULL, -100000005);
    }

    private static void source(String text) {
        String code = text.replaceAll("(?s)/\\*.*?\\*/", "").replaceAll("//[^\n]*", "");
        for (String word : FORBIDDEN) {
            CHECK.due("uses " + word, Pattern.compile(word).matcher(code).find() ? 1 : 0, 0);
        }
        Matcher imports = Pattern.compile("import ([^;]*);").matcher(code);
        while (imports.find()) {
            CHECK.due("import " + imports.group(1), imports.group(1).equals("java.util.Arrays") ? 1 : 0, 1);
        }
        // Objects are made in the constructor and in fields alone: a run's room is small.
        Matcher made = Pattern.compile("(?m)^.*\\bnew\\b.*$").matcher(code);
        while (made.find()) {
            String line = made.group().trim();
            boolean field = line.matches("private final int\\[\\] \\w+ = new int\\[.*\\];");
            boolean part = line.matches("\\w+ = new (Page|Net|Clocks)\\(\\w*\\);");
            CHECK.due("makes in a call: " + line, field || part ? 1 : 0, 1);
        }
    }
}
