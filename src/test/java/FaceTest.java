import java.lang.reflect.Constructor;
import java.lang.reflect.Field;
import java.lang.reflect.Method;
import java.lang.reflect.Modifier;
import java.nio.charset.StandardCharsets;
import java.nio.file.Files;
import java.nio.file.Path;
import java.util.Arrays;
import java.util.List;
import java.util.TreeSet;
import java.util.regex.Matcher;
import java.util.regex.Pattern;

/** The public face is the document's, and the source keeps to those rules of the language that can be seen in it. */
public final class FaceTest {
    private static final String FACE = "int machine(int,int);boolean rule(int,boolean,int);int feed(int,int,int,int,int);"
            + "int end(int);int text();int fault(int);boolean by(int);int crank(int,int);boolean oil(int,int);"
            + "boolean lift(int);int night(int);int played(int);int decades(int,int);int undo();int of(int,int);"
            + "int told(int,boolean);int is(int);int book(int,int);int foretold(int,int,int);int put(int);long may(int);"
            + "long odds(int,int,boolean);int day(int);int fits();int likeliest(int);int add(int);int second(int);"
            + "int duet(int,int);int common(int);int apart();int grows(int,int);int stays(boolean);"
            + "boolean likes(boolean,int,int,int);int paired(int);int blocks(int,int);boolean needs(int,int);"
            + "int stock(int,int,int);int looser(int,int);int whose();int forgiven(int);int snow();int worn();"
            + "int blank();int ledger(int);int image();int back();int about(int)";
    private static final Due due = new Due();

    public static void main(String[] args) throws Exception {
        face();
        source();
        due.finish("FaceTest");
    }

    private static void face() {
        due.promise("the public face");
        Class<?> c = MachinesDream.class;
        due.yes("public final", Modifier.isPublic(c.getModifiers()) && Modifier.isFinal(c.getModifiers()));
        TreeSet<String> open = new TreeSet<>();
        TreeSet<String> names = new TreeSet<>();
        for (Method m : c.getDeclaredMethods()) {
            if (!Modifier.isPrivate(m.getModifiers())) {
                String types = Arrays.toString(Arrays.stream(m.getParameterTypes()).map(Class::getName).toArray());
                open.add(m.getReturnType() + " " + m.getName() + "("
                        + types.substring(1, types.length() - 1).replace(" ", "") + ")");
                names.add(m.getName());
                due.yes(m.getName() + " is public, not static",
                        Modifier.isPublic(m.getModifiers()) && !Modifier.isStatic(m.getModifiers()));
            }
        }
        TreeSet<String> told = new TreeSet<>(List.of(FACE.split(";")));
        due.yes("methods " + open + " as told " + told, open.equals(told));
        for (Field f : c.getDeclaredFields()) {
            boolean constant = f.getName().equals("NONE") && Modifier.isPublic(f.getModifiers())
                    && Modifier.isStatic(f.getModifiers()) && Modifier.isFinal(f.getModifiers());
            due.yes("field " + f.getName(), constant || Modifier.isPrivate(f.getModifiers()));
        }
        due.is("NONE", MachinesDream.NONE, -1);
        Constructor<?>[] made = c.getDeclaredConstructors();
        due.yes("one constructor", made.length == 1 && made[0].getParameterCount() == 0
                && Modifier.isPublic(made[0].getModifiers()));
        due.yes("some twelve classes", c.getDeclaredClasses().length <= 12);
        for (Class<?> inner : c.getDeclaredClasses()) {
            inside(inner, names);
        }
        for (Method m : c.getDeclaredMethods()) {
            due.no(m.getName() + " bears a public name",
                    Modifier.isPrivate(m.getModifiers()) && names.contains(m.getName()));
        }
    }

    private static void inside(Class<?> inner, TreeSet<String> names) {
        due.yes(inner + " is static", Modifier.isStatic(inner.getModifiers()));
        int fields = 0;
        for (Field f : inner.getDeclaredFields()) {
            boolean isStatic = Modifier.isStatic(f.getModifiers());
            fields += isStatic ? 0 : 1;
            due.yes(f + " is final", !isStatic || Modifier.isFinal(f.getModifiers()));
        }
        due.yes(inner + " has some twenty fields", fields <= 20);
        for (Method m : inner.getDeclaredMethods()) {
            due.yes(m + " takes seven at most", m.getParameterCount() <= 7);
            due.no(m + " bears a public name", names.contains(m.getName()));
        }
    }

    private static void source() throws Exception {
        due.promise("the language");
        Path file = Path.of("src/main/java/MachinesDream.java");
        due.yes("the source is at " + file.toAbsolutePath(), Files.exists(file));
        String text = new String(Files.readAllBytes(file), StandardCharsets.UTF_8);
        due.yes("signs 1 to 127", text.chars().allMatch(c -> c > 0 && c < 128));
        String bare = text.replaceAll("(?s)/\\*.*?\\*/", "").replaceAll("//[^\n]*", "")
                .replaceAll("\"[^\"\n]*\"", "\"\"").replaceAll("'[^'\n]*'", "' '");
        String[] refused = {"\\bthrow\\b", "\\bthrows\\b", "\\btry\\b", "\\bcatch\\b", "\\bsynchronized\\b", "\\bassert\\b",
            "->", "::", "@", "\\bstatic \\{", "\\bvar\\b", "\\bpackage\\b", "\\bprotected\\b", "Exact\\b", "\"\" *\\+",
            "\\+ *\"\"", "while \\(true\\)", "for \\(;;", "\\bequals\\b", "\\bhashCode\\b", "\\btoString\\b",
            "\\bThread\\b", "\\bRandom\\b", "System\\.(?!arraycopy\\b)", "Arrays\\.(?!copyOf|copyOfRange|fill)",
            "\\bfloat\\b", "\\bdouble\\b", "\\bObject\\b", "\\[\\]\\[\\]\\[\\]", "\\benum\\b", "\\brecord\\b"};
        for (String r : refused) {
            due.no("it has " + r, Pattern.compile(r).matcher(bare).find());
        }
        Matcher imports = Pattern.compile("(?m)^import (.*);").matcher(bare);
        while (imports.find()) {
            due.yes("import " + imports.group(1), imports.group(1).equals("java.util.Arrays"));
        }
        methodLengths(text);
    }

    private static void methodLengths(String text) {
        int from = -1;
        String indent = "";
        String[] lines = text.split("\n");
        for (int i = 0; i < lines.length; i++) {
            Matcher begins = Pattern.compile("( {4}| {8})[a-zA-Z].*\\) \\{").matcher(lines[i]);
            boolean named = !lines[i].trim().matches("(for|if|while|switch) .*");
            if (from < 0 && begins.matches() && named) {
                from = i;
                indent = begins.group(1);
            } else if (from >= 0 && lines[i].equals(indent + "}")) {
                due.yes("some sixty lines: " + lines[from].trim(), i - from < 60);
                from = -1;
            }
        }
    }
}
