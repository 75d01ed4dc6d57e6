import java.io.IOException;
import java.lang.reflect.Constructor;
import java.lang.reflect.Field;
import java.lang.reflect.Method;
import java.lang.reflect.Modifier;
import java.nio.file.Files;
import java.nio.file.Path;
import java.util.ArrayList;
import java.util.List;
import java.util.TreeSet;
import java.util.regex.Matcher;
import java.util.regex.Pattern;

/** The face of the document, and those rules of LANGUAGE.md that can be seen by a look at the class and its text. */
public final class LanguageTest {
    private static final String FACE = "int feed(int,int,int,int,int);boolean end(int);int fault(int);int land();int rule();"
        + "int told(int,int);int harvest(int,int,int,int);int eaten(int,int,int);int left(int,int);boolean law(int,int);"
        + "boolean by(int,int);int worth(int,int,int,int,int,int);int keep(int,int,int,int,int);"
        + "int sold(int,int,int,int,int);int price(int,int,int,int,int);long below(int,int,int);"
        + "long welfare(int,int,int,int,int);long takings(int,int,int,int);int unlike(int,int,int);int ever(int,int);"
        + "int edge(int,int,int,int);boolean tell(int,int,int,int);int judge(int,int,int);long news(int,int,int,int);"
        + "long after(int,int,int,int,int,int,int,int);int row(int,int);int clear(int);boolean granary(int,int,int,int);"
        + "int run(int,int,int,int);int towns(int,int,int,int,int,int,int);int ran(int,int,int);int spent();"
        + "int blame(int,int,int,int);int count(int)";
    private static final String[] NEVER = {"->", "::", "\\btry\\b", "\\bcatch\\b", "\\bfinally\\b", "\\bsynchronized\\b",
        "\\bassert\\b", "\\w+Exact\\b", "\\bSystem\\.(?!arraycopy)", "\\bString\\b", "\\bObject\\b", "\\bdouble\\b",
        "\\bfloat\\b", "static \\{", "\\bpackage\\b", "\\bThread\\b", "\\.equals\\(", "\\bhashCode\\b", "\\btoString\\b",
        "\\bwhile\\b"};

    private static int wrong = 0;

    private static void check(String what, boolean holds) {
        if (!holds) {
            wrong++;
            System.out.println("not so: " + what);
        }
    }

    private static String signature(Method method) {
        List<String> types = new ArrayList<>();
        for (Class<?> type : method.getParameterTypes()) {
            types.add(type.getName());
        }
        return method.getReturnType().getName() + " " + method.getName() + "(" + String.join(",", types) + ")";
    }

    private static void checkFace() {
        TreeSet<String> due = new TreeSet<>(List.of(FACE.split(";")));
        TreeSet<String> got = new TreeSet<>();
        TreeSet<String> names = new TreeSet<>();
        for (Method method : CornBarn.class.getDeclaredMethods()) {
            if (Modifier.isPublic(method.getModifiers())) {
                got.add(signature(method));
                names.add(method.getName());
            }
        }
        check("public methods are the document's: " + got, got.equals(due));
        check("the class is public and final", Modifier.isPublic(CornBarn.class.getModifiers())
            && Modifier.isFinal(CornBarn.class.getModifiers()));
        Constructor<?>[] constructors = CornBarn.class.getDeclaredConstructors();
        check("one constructor", constructors.length == 1 && Modifier.isPublic(constructors[0].getModifiers()));
        for (Field field : CornBarn.class.getDeclaredFields()) {
            boolean constant = field.getName().equals("NONE") || field.getName().equals("HIDDEN");
            check(field.getName(), constant ? Modifier.isPublic(field.getModifiers())
                : Modifier.isPrivate(field.getModifiers()));
            check(field.getName() + " static only if final",
                !Modifier.isStatic(field.getModifiers()) || Modifier.isFinal(field.getModifiers()));
        }
        for (Method method : CornBarn.class.getDeclaredMethods()) {
            boolean isPublic = Modifier.isPublic(method.getModifiers());
            check(method.getName() + " is private", isPublic || Modifier.isPrivate(method.getModifiers()));
            check(method.getName() + " is a name of the face", isPublic || !names.contains(method.getName()));
        }
        checkInside(names);
    }

    private static void checkInside(TreeSet<String> names) {
        Class<?>[] inside = CornBarn.class.getDeclaredClasses();
        check("at most twelve classes", inside.length + 1 <= 12);
        for (Class<?> one : inside) {
            check(one.getName() + " is static", Modifier.isStatic(one.getModifiers()));
            int fields = 0;
            for (Field field : one.getDeclaredFields()) {
                fields += Modifier.isStatic(field.getModifiers()) ? 0 : 1;
                check(field.getName() + " static only if final",
                    !Modifier.isStatic(field.getModifiers()) || Modifier.isFinal(field.getModifiers()));
            }
            check(one.getName() + " has at most twenty fields", fields <= 20);
            for (Method method : one.getDeclaredMethods()) {
                check(method.getName() + " is a name of the face", !names.contains(method.getName()));
                check(method.getName() + " takes at most seven", method.getParameterCount() <= 7);
            }
        }
    }

    private static void checkText() throws IOException {
        String text = Files.readString(Path.of("src/main/java/CornBarn.java"));
        String bare = text.replaceAll("(?s)/\\*.*?\\*/", "").replaceAll("//[^\n]*", "").replaceAll("\"[^\"\n]*\"", "\"\"");
        for (String never : NEVER) {
            Matcher matcher = Pattern.compile(never).matcher(bare);
            check("no " + never, !matcher.find());
        }
        Matcher imports = Pattern.compile("import ([\\w.]+);").matcher(bare);
        while (imports.find()) {
            check(imports.group(1), List.of("java.util.Arrays", "java.util.NoSuchElementException").contains(imports.group(1)));
        }
        for (int i = 0; i < text.length(); i++) {
            check("signs 1 to 127", text.charAt(i) > 0 && text.charAt(i) < 128);
        }
        int from = -1;
        String[] lines = bare.split("\n", -1);
        for (int i = 0; i < lines.length; i++) {
            if (lines[i].matches(" +[\\w \\[\\]<>]+\\([^;]*\\{") && !lines[i].matches(" +(if|for|while|switch|\\}).*")) {
                from = i;
            }
            check("line " + (i + 1) + ": a method of at most sixty lines",
                !(lines[i].matches(" {4,8}\\}") && from >= 0 && i - from > 60 && lines[i].indexOf('}') == lines[from].indexOf(lines[from].trim())));
        }
    }

    public static void main(String[] args) throws IOException {
        checkFace();
        checkText();
        System.out.println(wrong == 0 ? "the class keeps to its face and language" : wrong + " things are not so");
        if (wrong != 0) {
            System.exit(1);
        }
    }
}
