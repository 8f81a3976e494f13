import java.io.IOException;
import java.lang.reflect.Constructor;
import java.lang.reflect.Field;
import java.lang.reflect.Method;
import java.lang.reflect.Modifier;
import java.nio.file.Files;
import java.nio.file.Path;
import java.util.ArrayList;
import java.util.List;
import java.util.Set;
import java.util.TreeSet;
import java.util.regex.Matcher;
import java.util.regex.Pattern;

/** The public face as the document has it, and what of LANGUAGE.md can be seen in the source and in the classes. */
public final class FaceTest {
    private static final String[] FACE = {"feed(int,int,int,int,int) int", "end(int) boolean", "parish() int", "fault() int",
        "tree(int,int) int !", "cell(int,int,int) int !", "owner(int,int) int", "strip(int,int) int", "now(int) int",
        "blow(int,int) int", "plant(int,int,int) int", "fell(int) int", "wall(int,int) int", "rake(int,int) int", "undo() int",
        "leaves(int,int,int,int) int", "votes(int,int,int,int) int", "voices(int,int,int,int) int", "goes(int,int,int) int",
        "sack(int,int,int) int", "likely(int,int,int) int !", "decides(int,int,int) int", "blew() int", "wind() int",
        "raked(int,int) int", "where() int", "bestTree(int,int,int,int) int", "bestWall(int,int) int",
        "duel(int,int,int,int) int", "at() int", "drawn(int,int) int", "odds(int,int,int,int) int", "roll(int) int",
        "rolled(int) int", "sentence() int", "said(int) int", "image(int) boolean", "restore(int) boolean", "count(int) int"};

    public static void main(String[] args) throws IOException {
        face();
        members();
        source();
        Due.close();
    }

    private static String shown(Method m) {
        StringBuilder text = new StringBuilder(m.getName()).append('(');
        for (Class<?> type : m.getParameterTypes()) {
            text.append(text.charAt(text.length() - 1) == '(' ? "" : ",").append(type.getName());
        }
        text.append(") ").append(m.getReturnType().getName());
        for (Class<?> thrown : m.getExceptionTypes()) {
            text.append(thrown == java.util.NoSuchElementException.class ? " !" : " ?");
        }
        return text.toString();
    }

    private static void face() {
        Set<String> want = new TreeSet<>(List.of(FACE));
        Set<String> got = new TreeSet<>();
        for (Method m : LeafVotes.class.getDeclaredMethods()) {
            if (!Modifier.isPrivate(m.getModifiers())) {
                got.add(shown(m));
            }
        }
        Due.due("the face is " + got + ", due " + want, got.equals(want), true);
        Due.due("the class is public and final", Modifier.isPublic(LeafVotes.class.getModifiers())
            && Modifier.isFinal(LeafVotes.class.getModifiers()), true);
        Constructor<?>[] makers = LeafVotes.class.getDeclaredConstructors();
        Due.due("one constructor", makers.length, 1);
        Due.due("it is public", Modifier.isPublic(makers[0].getModifiers()), true);
        Due.due("NONE", LeafVotes.NONE, -1);
        for (Field f : LeafVotes.class.getDeclaredFields()) {
            Due.due("field " + f.getName() + " is private or NONE",
                Modifier.isPrivate(f.getModifiers()) || f.getName().equals("NONE"), true);
        }
    }

    private static void members() {
        Set<String> names = new TreeSet<>();
        for (String one : FACE) {
            names.add(one.substring(0, one.indexOf('(')));
        }
        List<Class<?>> all = new ArrayList<>(List.of(LeafVotes.class.getDeclaredClasses()));
        Due.due("classes: " + all.size(), all.size() <= 12, true);
        all.add(LeafVotes.class);
        for (Class<?> type : all) {
            int fields = 0;
            for (Field f : type.getDeclaredFields()) {
                fields += Modifier.isStatic(f.getModifiers()) ? 0 : 1;
                Due.due("static state " + f, !Modifier.isStatic(f.getModifiers()) || Modifier.isFinal(f.getModifiers()), true);
            }
            Due.due(type + " has fields: " + fields, fields <= 20, true);
            for (Method m : type.getDeclaredMethods()) {
                Due.due("parameters of " + m, m.getParameterCount() <= 7, true);
                Due.due("name of " + m, !names.contains(m.getName()) || Modifier.isPublic(m.getModifiers()), true);
            }
        }
    }

    private static void source() throws IOException {
        Path root = Path.of(System.getProperty("project.root", "."));
        String text = Files.readString(root.resolve("src/main/java/LeafVotes.java"));
        String code = text.replaceAll("(?s)/\\*.*?\\*/", "").replaceAll("//[^\n]*", "").replaceAll("\"[^\"\n]*\"", "\"\"");
        String[] never = {"->", "::", "\\btry\\b", "\\bcatch\\b", "\\bfinally\\b", "\\bsynchronized\\b", "\\bassert\\b",
            "\\bpackage\\b", "\\bdouble\\b", "\\bfloat\\b", "Exact\\b", "System\\.(?!arraycopy)", "\\bhashCode\\b", "\\btoString\\b",
            "\\bRandom\\b", "\\bThread\\b", "\"\"\\s*\\+", "\\+\\s*\"\"", "static\\s*\\{", "\\bthis\\b"};
        for (String pattern : never) {
            Due.due("never " + pattern, Pattern.compile(pattern).matcher(code).find(), false);
        }
        Matcher imports = Pattern.compile("import ([\\w.]+);").matcher(code);
        while (imports.find()) {
            Due.due("import " + imports.group(1),
                Set.of("java.util.Arrays", "java.util.NoSuchElementException").contains(imports.group(1)), true);
        }
        for (int i = 0; i < text.length(); i++) {
            if (text.charAt(i) > 126) {
                Due.due("a sign beyond 126 at " + i, 1, 0);
            }
        }
        Matcher thrown = Pattern.compile("throw [^;]*;").matcher(code);
        while (thrown.find()) {
            Due.due(thrown.group(), thrown.group().equals("throw new NoSuchElementException();"), true);
        }
        methodLengths(text);
    }

    private static void methodLengths(String text) {
        String[] lines = text.split("\n");
        for (int from = 0; from < lines.length; from++) {
            Matcher head = Pattern.compile("^( {4}| {8})\\w[^=;]*\\([^;]*\\)[^;=]*\\{$").matcher(lines[from]);
            if (!head.find()) {
                continue;
            }
            int to = from;
            while (!lines[to].equals(head.group(1) + "}")) {
                to++;
            }
            Due.due("lines of " + lines[from].trim() + " " + (to - from + 1), to - from + 1 <= 60, true);
        }
    }
}
