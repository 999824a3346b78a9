import java.io.IOException;
import java.lang.reflect.Constructor;
import java.lang.reflect.Field;
import java.lang.reflect.Method;
import java.lang.reflect.Modifier;
import java.nio.file.Files;
import java.nio.file.Path;
import java.util.HashMap;
import java.util.List;
import java.util.Map;
import java.util.Set;
import java.util.TreeSet;
import java.util.regex.Matcher;
import java.util.regex.Pattern;

/** What of LANGUAGE.md can be seen without a compiler of one's own: the face, and words that must not stand in the source. */
public final class LanguageTest {
    private static final Set<String> FACE = Set.of(
            "int feed(int,int,int,int,int)", "int island(int)", "int fault()", "int count(int)", "int cell(int,int)",
            "boolean quick(int,int)", "int water(int,int)", "int party(int,int)", "boolean may(int,int,int,int)",
            "int cross(int,int,int)", "int way(int)", "int starts(int,int,int)", "int book(int,int,int)", "int undo()",
            "int booked(int,int)", "int at(int,int)", "int met(int,int)", "int crowded(int)", "int leave(int)",
            "int burials()", "int buried(int)", "int queue(int)", "int heir(int)", "int sink(int,int,boolean)",
            "int forget()", "int motions(int)", "long sound(int,boolean)", "int late(int,int,int)",
            "int costs(int,int,int,int)", "int vigil(int,int,int,int)", "int rents(int,int,int)",
            "int warning(int,int,int)", "int fogs(int,int,int,int)", "void image()", "boolean restore()");
    private static int wrong;

    public static void main(String[] args) throws IOException {
        face();
        classesInside();
        source(Files.readString(Path.of(System.getProperty("ebb.source", "src/main/java/EbbIsland.java"))));
        System.out.println("LanguageTest: " + (wrong == 0 ? "keeps to the rules" : wrong + " rules broken"));
        System.exit(wrong == 0 ? 0 : 1);
    }

    private static void say(String what) {
        wrong++;
        System.out.println("LanguageTest: " + what);
    }

    private static String shape(Method m) {
        StringBuilder b = new StringBuilder(m.getReturnType() + " " + m.getName() + "(");
        for (Class<?> p : m.getParameterTypes()) {
            b.append(b.charAt(b.length() - 1) == '(' ? "" : ",").append(p);
        }
        return b.append(")").toString();
    }

    private static void face() {
        Set<String> seen = new TreeSet<>();
        for (Method m : EbbIsland.class.getDeclaredMethods()) {
            if (Modifier.isPublic(m.getModifiers())) {
                seen.add(shape(m));
            } else if (!Modifier.isPrivate(m.getModifiers())) {
                say("1: " + m.getName() + " can be seen");
            }
        }
        if (!seen.equals(FACE)) {
            say("1: the face is " + seen);
        }
        for (Field f : EbbIsland.class.getDeclaredFields()) {
            if (!f.getName().equals("NONE") && !Modifier.isPrivate(f.getModifiers())) {
                say("1: " + f.getName() + " can be seen");
            }
        }
        for (Constructor<?> c : EbbIsland.class.getDeclaredConstructors()) {
            if (!Modifier.isPublic(c.getModifiers()) || c.getParameterCount() > 0) {
                say("1: a constructor that is not of the face");
            }
        }
        if (!Modifier.isFinal(EbbIsland.class.getModifiers())) {
            say("1: the class is not final");
        }
    }

    private static void classesInside() {
        Class<?>[] inside = EbbIsland.class.getDeclaredClasses();
        if (inside.length > 12) {
            say("11: " + inside.length + " classes");
        }
        Set<String> names = new TreeSet<>();
        for (String f : FACE) {
            names.add(f.substring(f.indexOf(' ') + 1, f.indexOf('(')));
        }
        for (Class<?> c : inside) {
            for (Method m : c.getDeclaredMethods()) {
                if (names.contains(m.getName()) || m.getParameterCount() > 7) {
                    say("1, 11: " + c.getSimpleName() + "." + m.getName());
                }
            }
            long fields = 0;
            for (Field f : c.getDeclaredFields()) {
                fields += Modifier.isStatic(f.getModifiers()) ? 0 : 1;
            }
            if (fields > 20) {
                say("11: " + c.getSimpleName() + " has " + fields + " fields");
            }
        }
        for (Method m : EbbIsland.class.getDeclaredMethods()) {
            if (Modifier.isPrivate(m.getModifiers()) && names.contains(m.getName())) {
                say("1: a private " + m.getName());
            }
        }
    }

    private static void source(String text) {
        String bare = text.replaceAll("(?s)/\\*.*?\\*/", " ").replaceAll("//[^\n]*", " ");
        String code = bare.replaceAll("\"[^\"\n]*\"", "\"\"");
        List<String> forbidden = List.of(
                "->", "::", "\\btry\\b", "\\bcatch\\b", "\\bfinally\\b", "\\bassert\\b", "\\bsynchronized\\b", "\\binstanceof\\b",
                "\\bdouble\\b", "\\bfloat\\b", "\\bObject\\b", "\\bequals\\b", "\\bhashCode\\b", "\\btoString\\b", "Exact\\b",
                "\\bstatic\\s*\\{", "\\bSystem\\.(?!arraycopy)", "\\bprotected\\b", "\\bnull\\b", "\\bThread\\b", "\\bRandom\\b");
        for (String f : forbidden) {
            if (Pattern.compile(f).matcher(code).find()) {
                say("the source has " + f);
            }
        }
        Matcher imports = Pattern.compile("import ([^;]+);").matcher(code);
        while (imports.find()) {
            if (!Set.of("java.util.Arrays", "java.util.NoSuchElementException").contains(imports.group(1))) {
                say("4: imports " + imports.group(1));
            }
        }
        Matcher statics = Pattern.compile("\\bstatic (?!final |boolean has|boolean rests|int \\w+\\()[^\n]*").matcher(code);
        while (statics.find()) {
            say("5: " + statics.group());
        }
        lengths(code);
    }

    private static void lengths(String code) {
        Map<String, Integer> begun = new HashMap<>();
        String[] lines = code.split("\n");
        String name = null;
        for (int i = 0; i < lines.length; i++) {
            Matcher head = Pattern.compile("^( {4}| {8})(?:\\w+ )+(\\w+)\\([^;]*\\{$").matcher(lines[i]);
            if (head.find() && !lines[i].contains("class ")) {
                name = head.group(1) + "}" + head.group(2);
                begun.put(name, i);
            } else if (name != null && lines[i].equals(name.substring(0, name.indexOf('}') + 1))) {
                if (i - begun.get(name) > 60) {
                    say("11: " + name.trim() + " has " + (i - begun.get(name)) + " lines");
                }
                name = null;
            }
        }
    }
}
