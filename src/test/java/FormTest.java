import java.lang.reflect.Constructor;
import java.lang.reflect.Field;
import java.lang.reflect.Method;
import java.lang.reflect.Modifier;
import java.nio.file.Files;
import java.nio.file.Path;
import java.util.Arrays;
import java.util.HashSet;
import java.util.List;
import java.util.Set;
import java.util.TreeSet;
import java.util.regex.Matcher;
import java.util.regex.Pattern;

/** The face of the document, and those rules of LANGUAGE.md that can be seen from outside. */
public final class FormTest {
    private static int wrong = 0;

    private static void must(boolean holds, String what) {
        if (!holds) {
            wrong++;
            System.out.println("not so: " + what);
        }
    }

    private static final String[] FACE = {
        "int nave(int,int)", "int harrow(int)", "int stony(int,int)", "int type(int)", "int clear()", "int read()",
        "int says(int,int)", "int drags(int)", "int reaps(int)", "int weeks(int)", "int undo()", "int of(int,int)",
        "int high(int,int)", "int when(int,int)", "int green(int)", "int way(int,int)", "int three(int,int)",
        "int seen(int,int,int,int)", "int said(int)", "int tell(int)", "int mark(int,int,int)", "int forget(int)",
        "int kinds()", "int ask()", "int deep(int,int)", "int sparrow(int,int)", "int frost(int,int)",
        "int years(int,int)", "long part(int)", "int image(int)", "int from(int)", "int status(int)",
        "int count(int)", "long digest()"};

    private static void face() {
        Class<?> c = HarrowSaid.class;
        must(Modifier.isPublic(c.getModifiers()) && Modifier.isFinal(c.getModifiers()), "the class is public and final");
        Set<String> found = new TreeSet<>();
        Set<String> names = new HashSet<>();
        for (Method m : c.getDeclaredMethods()) {
            if (Modifier.isPublic(m.getModifiers())) {
                StringBuilder s = new StringBuilder(m.getReturnType() + " " + m.getName() + "(");
                for (Class<?> p : m.getParameterTypes()) {
                    s.append(s.charAt(s.length() - 1) == '(' ? "" : ",").append(p);
                }
                found.add(s + ")");
                names.add(m.getName());
                must(!Modifier.isStatic(m.getModifiers()), m.getName() + " is no static method");
            }
        }
        must(found.equals(new TreeSet<>(Arrays.asList(FACE))), "the public methods are the document's: " + found);
        hidden(c, names);
        for (Class<?> inside : c.getDeclaredClasses()) {
            must(Modifier.isStatic(inside.getModifiers()), inside + " is static");
            must(!Modifier.isPublic(inside.getModifiers()), inside + " is not public");
            must(fieldsThatCount(inside) <= 20, inside + " has some twenty fields at most");
            for (Method m : inside.getDeclaredMethods()) {
                must(!names.contains(m.getName()), inside + " has no method " + m.getName());
            }
        }
        must(c.getDeclaredClasses().length <= 11, "some twelve classes at most");
        must(fieldsThatCount(c) <= 20, "some twenty fields at most");
    }

    private static void hidden(Class<?> c, Set<String> names) {
        Set<String> constants = new HashSet<>(List.of("NONE", "BAD", "NO", "FULL"));
        for (Method m : c.getDeclaredMethods()) {
            boolean isPublic = Modifier.isPublic(m.getModifiers());
            must(isPublic || Modifier.isPrivate(m.getModifiers()), m + " is public or private");
            must(isPublic || !names.contains(m.getName()), m + " bears no public name");
            must(m.getParameterCount() <= 7, m + " has seven parameters at most");
        }
        for (Field f : c.getDeclaredFields()) {
            must(Modifier.isPrivate(f.getModifiers()) != constants.contains(f.getName()), f + " is private or a constant");
            must(!Modifier.isStatic(f.getModifiers()) || Modifier.isFinal(f.getModifiers()), f + " is final");
        }
        Constructor<?>[] made = c.getDeclaredConstructors();
        must(made.length == 1 && made[0].getParameterCount() == 0, "one constructor, without parameters");
    }

    private static int fieldsThatCount(Class<?> c) {
        int many = 0;
        for (Field f : c.getDeclaredFields()) {
            many += Modifier.isStatic(f.getModifiers()) ? 0 : 1;
        }
        return many;
    }

    private static final String[] RULED_OUT = {"throw", "throws", "try", "catch", "finally", "synchronized", "assert",
        "protected", "volatile", "transient", "native", "yield", "var", "Object", "hashCode", "toString", "Random",
        "Thread", "currentTimeMillis", "nanoTime", "Exception", "Error", "Scanner", "File", "HashMap", "Map", "Set"};

    private static void source() throws Exception {
        String whole = Files.readString(Path.of("src/main/java/HarrowSaid.java"));
        for (int i = 0; i < whole.length(); i++) {
            must(whole.charAt(i) < 127, "a sign beyond 126 at " + i);
        }
        String code = Pattern.compile("/\\*.*?\\*/", Pattern.DOTALL).matcher(whole).replaceAll("");
        code = code.replaceAll("//[^\n]*", "").replaceAll("\"[^\"\n]*\"", "\"\"");
        for (String word : RULED_OUT) {
            must(!Pattern.compile("\\b" + word + "\\b").matcher(code).find(), "no " + word);
        }
        must(!code.contains("->") && !code.contains("::"), "no lambda, no method reference");
        must(!Pattern.compile("\\bstatic\\s*\\{").matcher(code).find(), "no static initialiser block");
        must(!Pattern.compile("Exact\\b").matcher(code).find(), "no function whose name ends in Exact");
        must(!Pattern.compile("^package", Pattern.MULTILINE).matcher(code).find(), "no package line");
        Matcher imports = Pattern.compile("^import (.*);", Pattern.MULTILINE).matcher(code);
        while (imports.find()) {
            must(imports.group(1).equals("java.util.Arrays"), "no import of " + imports.group(1));
        }
        shortMethods(code);
        onlyMadeWithTheObject(code);
    }

    private static void shortMethods(String code) {
        String[] lines = code.split("\n");
        int began = -1;
        String end = "";
        for (int i = 0; i < lines.length; i++) {
            String indent = lines[i].replaceAll("\\S.*", "");
            if (began < 0 && lines[i].matches("(    ){1,2}[a-z].*\\(.*\\) \\{") && !lines[i].contains(" class ")) {
                began = i;
                end = indent + "}";
            } else if (began >= 0 && lines[i].equals(end)) {
                must(i - began < 60, "a method of some sixty lines: " + lines[began].trim());
                began = -1;
            }
        }
    }

    /** No call makes an object: what a run makes is what its constructors make. */
    private static void onlyMadeWithTheObject(String code) {
        int from = code.indexOf("public HarrowSaid()");
        int to = code.indexOf("    }\n\n", from);
        String calls = code.substring(0, from) + code.substring(to);
        for (String line : calls.split("\n")) {
            boolean field = line.matches("        final \\S+ \\S+ = new .*;");
            must(field || !line.matches(".*\\bnew\\b.*"), "made by a call: " + line.trim());
        }
    }

    public static void main(String[] args) throws Exception {
        face();
        source();
        System.out.println(wrong == 0 ? "the form is as told" : wrong + " rules are broken");
        if (wrong != 0) {
            System.exit(1);
        }
    }
}
