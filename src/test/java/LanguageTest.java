import java.io.IOException;
import java.lang.reflect.Field;
import java.lang.reflect.Member;
import java.lang.reflect.Method;
import java.lang.reflect.Modifier;
import java.nio.file.Files;
import java.nio.file.Path;
import java.util.ArrayList;
import java.util.List;
import java.util.Set;
import java.util.TreeSet;
import java.util.regex.Matcher;
import java.util.regex.Pattern;

/** The face against the document, and those rules of LANGUAGE.md that can be seen from outside or in the text. */
public final class LanguageTest {
    private static final List<String> BANNED = List.of("\\btry\\b", "\\bcatch\\b", "\\bfinally\\b", "\\bsynchronized\\b",
        "\\bassert\\b", "->", "::", "static \\{", "Exact\\b", "\\bprotected\\b", "\\bnative\\b", "\\bvar\\b", "System\\.(?!arraycopy)",
        "\\bThread\\b", "\\bRandom\\b", "hashCode", "toString", "\\bMath\\.random\\b", "@", "\\bvolatile\\b", "\\btransient\\b");

    private int wrong = 0;

    public static void main(String[] args) throws IOException {
        LanguageTest test = new LanguageTest();
        test.face();
        test.members();
        test.text(Files.readString(Path.of("src/main/java/FogWatch.java")));
        System.out.println("LanguageTest: " + test.wrong + " breaches");
        if (test.wrong != 0) {
            System.exit(1);
        }
    }

    private void must(boolean good, String what) {
        if (!good) {
            wrong++;
            System.out.println(what);
        }
    }

    private static String row(Method m) {
        StringBuilder row = new StringBuilder(m.getReturnType() + " " + m.getName() + "(");
        for (Class<?> p : m.getParameterTypes()) {
            row.append(p).append(' ');
        }
        row.append(')');
        for (Class<?> e : m.getExceptionTypes()) {
            row.append(' ').append(e.getSimpleName());
        }
        return row.toString();
    }

    private void face() throws IOException {
        Set<String> wanted = new TreeSet<>();
        Pattern method = Pattern.compile("^    public (int|long) ([a-z]+)\\(([^)]*)\\)(?: throws (.*))?;$", Pattern.MULTILINE);
        Matcher found = method.matcher(Files.readString(Path.of("../shared/DOC.md")));
        while (found.find()) {
            StringBuilder row = new StringBuilder(found.group(1) + " " + found.group(2) + "(");
            for (String p : found.group(3).split(", ")) {
                row.append(p.isEmpty() ? "" : p.split(" ")[0] + " ");
            }
            row.append(')');
            if (found.group(4) != null) {
                row.append(' ').append(found.group(4).replace(", ", " "));
            }
            wanted.add(row.toString());
        }
        must(wanted.size() == 40, "the document's face was not found: " + wanted.size());
        Set<String> there = new TreeSet<>();
        for (Method m : FogWatch.class.getDeclaredMethods()) {
            if (!Modifier.isPrivate(m.getModifiers())) {
                there.add(row(m));
                must(Modifier.isPublic(m.getModifiers()) && !Modifier.isStatic(m.getModifiers()), "not plainly public: " + m);
            }
        }
        must(wanted.equals(there), "the face is not the document's: " + wanted + " / " + there);
        must(Modifier.isFinal(FogWatch.class.getModifiers()), "the class is not final");
        must(FogWatch.class.getDeclaredConstructors().length == 1, "one constructor");
    }

    private void members() {
        Set<String> names = new TreeSet<>();
        for (Method m : FogWatch.class.getDeclaredMethods()) {
            if (Modifier.isPublic(m.getModifiers())) {
                names.add(m.getName());
            }
        }
        List<Class<?>> classes = new ArrayList<>(List.of(FogWatch.class.getDeclaredClasses()));
        must(classes.size() <= 12, "too many classes: " + classes.size());
        classes.add(FogWatch.class);
        for (Class<?> c : classes) {
            must(c == FogWatch.class || Modifier.isStatic(c.getModifiers()), "not static: " + c);
            int fields = 0;
            for (Field f : c.getDeclaredFields()) {
                boolean constant = Modifier.isStatic(f.getModifiers());
                must(!constant || Modifier.isFinal(f.getModifiers()), "static and not final: " + f);
                fields += constant ? 0 : 1;
                must(c != FogWatch.class || isPrivate(f) || f.getName().equals("NONE"), "seen from outside: " + f);
            }
            must(fields <= 20, "too many fields: " + c + " " + fields);
            for (Method m : c.getDeclaredMethods()) {
                must(m.getParameterCount() <= 7, "too many parameters: " + m);
                must(c == FogWatch.class && Modifier.isPublic(m.getModifiers()) || !names.contains(m.getName()),
                    "bears a name of the face: " + m);
            }
        }
    }

    private static boolean isPrivate(Member m) {
        return Modifier.isPrivate(m.getModifiers());
    }

    private void text(String source) {
        String code = source.replaceAll("(?s)/\\*.*?\\*/", "").replaceAll("//[^\n]*", "");
        for (String banned : BANNED) {
            must(!Pattern.compile(banned).matcher(code).find(), "stands in the program: " + banned);
        }
        for (int i = 0; i < source.length(); i++) {
            must(source.charAt(i) == '\n' || source.charAt(i) >= 32 && source.charAt(i) < 127, "a sign beyond: at " + i);
        }
        Matcher imports = Pattern.compile("import ([^;]*);").matcher(source);
        while (imports.find()) {
            must(List.of("java.util.Arrays", "java.util.NoSuchElementException").contains(imports.group(1)), imports.group());
        }
        Matcher methods = Pattern.compile("(?ms)^( {4}| {8})[a-zA-Z][^;={]*\\{\n.*?^\\1\\}").matcher(code);
        int from = 0;
        while (methods.find(from)) {
            boolean isClass = methods.group().substring(0, methods.group().indexOf('{')).contains("class ");
            long lines = methods.group().lines().count();
            must(isClass || lines <= 60, "a long method: " + methods.group().lines().findFirst().orElse(""));
            from = isClass ? methods.start() + methods.group().indexOf('{') : methods.end();
        }
        must(!Pattern.compile("while|do \\{").matcher(code).find(), "a loop without a counter");
    }
}
