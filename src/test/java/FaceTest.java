import java.io.IOException;
import java.lang.reflect.Constructor;
import java.lang.reflect.Field;
import java.lang.reflect.Method;
import java.lang.reflect.Modifier;
import java.nio.file.Files;
import java.nio.file.Path;
import java.util.ArrayList;
import java.util.Collections;
import java.util.List;
import java.util.regex.Matcher;
import java.util.regex.Pattern;

/** The public face as the document has it, and those rules of the language that can be seen in the source. */
public final class FaceTest {
    private static final Path SOURCE = Path.of("src/main/java/NorthWheel.java");
    private static final Path DOCUMENT = Path.of("../shared/DOC.md");
    private static final Checks c = new Checks();
    private static final String[] FACE = {
        "set(int,int)", "head(int)", "sea(int)", "calm()", "kind(int,int)", "tune(int,int,int)", "off(int,int)",
        "told(int,int,int)", "iron(int,int)", "shows(int)", "now(int,int)", "lean(int,int,int)", "deviation(int)",
        "run(int,boolean)", "write(long,int)", "erase()", "fault()", "steerer()", "steers(int)", "course(int)",
        "swing(int,int,boolean,int)", "noUse(int)", "turned(int,int,int,int)", "bestPull(int,int,int,int)",
        "kept(int,int,int)", "bestDead(int,int)", "look(int,int,int)", "wrong(int,int)", "about(int,int)",
        "needle(int,int)", "watch(int,int)", "may(int,int)", "count(int)"};

    public static void main(String[] args) throws IOException {
        constants();
        methods();
        others();
        source();
        faceOfTheDocument();
        groupsOfTheDocument();
        c.end();
    }

    private static void constants() {
        c.due("NONE", NorthWheel.NONE, -1);
        c.due("UNKNOWN", NorthWheel.UNKNOWN, -2);
        c.due("OUTSIDE", NorthWheel.OUTSIDE, -3);
        c.due("NOT", NorthWheel.NOT, -4);
        c.due("FULL", NorthWheel.FULL, -5);
    }

    private static void methods() {
        List<String> found = new ArrayList<>();
        List<String> hidden = new ArrayList<>();
        for (Method m : NorthWheel.class.getDeclaredMethods()) {
            if (Modifier.isPublic(m.getModifiers())) {
                found.add(signature(m));
                c.holds(m.getName() + " answers an int", m.getReturnType() == int.class);
                c.holds(m.getName() + " is of the object", !Modifier.isStatic(m.getModifiers()));
            } else {
                hidden.add(m.getName());
                c.holds(m.getName() + " is private", Modifier.isPrivate(m.getModifiers()));
            }
        }
        for (Class<?> inside : NorthWheel.class.getDeclaredClasses()) {
            for (Method m : inside.getDeclaredMethods()) {
                hidden.add(m.getName());
            }
        }
        List<String> want = new ArrayList<>(List.of(FACE));
        Collections.sort(want);
        Collections.sort(found);
        c.holds("the methods are the face: " + found, want.equals(found));
        for (String name : hidden) {
            c.holds(name + " is no name of the face", !String.join(" ", FACE).matches("(.* )?" + name + "\\(.*"));
        }
    }

    private static String signature(Method m) {
        List<String> types = new ArrayList<>();
        for (Class<?> type : m.getParameterTypes()) {
            types.add(type.getName());
        }
        return m.getName() + "(" + String.join(",", types) + ")";
    }

    private static void others() {
        c.holds("final", Modifier.isFinal(NorthWheel.class.getModifiers()));
        Constructor<?>[] made = NorthWheel.class.getDeclaredConstructors();
        c.holds("one public constructor", made.length == 1 && made[0].getParameterCount() == 0
            && Modifier.isPublic(made[0].getModifiers()));
        for (Field f : NorthWheel.class.getDeclaredFields()) {
            boolean ofFace = List.of("NONE", "UNKNOWN", "OUTSIDE", "NOT", "FULL").contains(f.getName());
            c.holds(f.getName() + " is private or of the face", Modifier.isPrivate(f.getModifiers()) != ofFace);
            c.holds(f.getName() + " is final", Modifier.isFinal(f.getModifiers()));
        }
        c.holds("some twelve classes", NorthWheel.class.getDeclaredClasses().length < 12);
        for (Class<?> inside : NorthWheel.class.getDeclaredClasses()) {
            c.holds(inside + " is static", Modifier.isStatic(inside.getModifiers()));
            c.holds(inside + " has some twenty fields", inside.getDeclaredFields().length <= 20);
        }
    }

    private static void source() throws IOException {
        String text = Files.readString(SOURCE);
        String code = text.replaceAll("(?s)/\\*.*?\\*/", "").replaceAll("//[^\n]*", "");
        Matcher banned = Pattern.compile(
            "\\b(throw|throws|try|catch|synchronized|assert|import|package|protected|native|var|System\\.(?!arraycopy)\\w+)\\b|->|::")
            .matcher(code);
        c.holds("no word that the language leaves out", !banned.find());
        Matcher parameters = Pattern.compile("\\(([^()]*int [^()]*)\\) \\{").matcher(code);
        while (parameters.find()) {
            c.holds("at most seven parameters", parameters.group(1).split(",").length <= 7);
        }
    }

    /** Each line of the document's face stands in the source, with the names of its numbers, in the same order. */
    private static void faceOfTheDocument() throws IOException {
        if (!Files.exists(DOCUMENT)) {
            return;
        }
        Matcher block = Pattern.compile("(?s)## The public face\\s+```java\\s(.*?)```").matcher(Files.readString(DOCUMENT));
        c.holds("the document has a face", block.find());
        String source = Files.readString(SOURCE);
        int from = 0;
        int lines = 0;
        for (String line : block.group(1).split("\n")) {
            if (line.strip().startsWith("public")) {
                int at = source.indexOf(line.strip().replace(");", ") {"), from);
                c.holds("in its place: " + line.strip(), at >= 0);
                from = Math.max(at, from);
                lines++;
            }
        }
        // the class, its constants, its constructor and the calls
        c.due("lines of the face", lines, 3 + FACE.length);
    }

    /** Ahead of the first call of each group stands what the document says there. */
    private static void groupsOfTheDocument() throws IOException {
        if (!Files.exists(DOCUMENT)) {
            return;
        }
        String source = Files.readString(SOURCE).replaceAll("\\s+", " ");
        Matcher groups = Pattern.compile("Ahead of the calls `(\\w+)`[^\\n]* the interface says: (---- [^\\n]*)\\.\\n")
            .matcher(Files.readString(DOCUMENT));
        int seen = 0;
        while (groups.find()) {
            c.holds(groups.group(2), source.contains("// " + groups.group(2) + " public int " + groups.group(1) + "("));
            seen++;
        }
        c.due("groups of calls", seen, 4);
    }
}
