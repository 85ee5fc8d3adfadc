import java.io.IOException;
import java.lang.reflect.Method;
import java.lang.reflect.Modifier;
import java.nio.file.Files;
import java.nio.file.Path;
import java.util.ArrayList;
import java.util.Arrays;
import java.util.Collections;
import java.util.List;
import java.util.regex.Matcher;
import java.util.regex.Pattern;

/** The public face as the document gives it, and the rules of LANGUAGE.md that can be seen from the outside. */
public final class FaceTest {
    private static final String[] FACE = {
        "int row(int,int,int)", "int set(int,int,long)", "int copy(int,int,int,int,int)", "long element(int,int)",
        "int show(int,int)", "int holds(int)", "int says(int,int)", "int shop(int,int,int)", "int child(int,int)",
        "int shopOf(int,int)", "int childOf(int,int)", "int tell(int,int,int)", "int keeps(int,int)",
        "int ask(int,int)", "int garden(int)", "int fault()", "int may(int)", "int behind(int,int,int,int)",
        "int asks(int,int,int)", "int deals(int,int,int)", "int runs(int,int,int)", "int settles(int,int)",
        "int picked(int,int)", "int cheapest()", "int money(int)", "int inked(int)", "int keepers(int,int)",
        "int bored(int,int)", "int bank(int)", "int rot(int,int)", "int trust(int,int)", "int judge(int,int)",
        "int told(int,int,int)", "int done(int,int)", "int heap(int,int)", "int does(int,int)", "int minute(int)",
        "int night()", "int afternoon(int)", "int seed(int)", "int act(int,int,int)", "int trace(int)",
        "int image()", "int restore()", "int status(int)",
    };

    public static void main(String[] args) throws IOException {
        face();
        insideClasses();
        source(args.length > 0 ? args[0] : "src/main/java/PaidInLeaves.java");
        Due.end();
    }

    private static String signature(Method m) {
        List<String> types = new ArrayList<>();
        for (Class<?> type : m.getParameterTypes()) {
            types.add(type.getSimpleName());
        }
        return m.getReturnType().getSimpleName() + " " + m.getName() + "(" + String.join(",", types) + ")";
    }

    private static void face() {
        Class<?> c = PaidInLeaves.class;
        Due.due("public final", c.getModifiers(), Modifier.PUBLIC | Modifier.FINAL);
        List<String> open = new ArrayList<>();
        List<String> publicNames = new ArrayList<>();
        for (Method m : c.getDeclaredMethods()) {
            if (!Modifier.isPrivate(m.getModifiers())) {
                open.add(signature(m));
                publicNames.add(m.getName());
                Due.due(m.getName() + " is public alone", m.getModifiers(), Modifier.PUBLIC);
            }
        }
        List<String> want = new ArrayList<>(Arrays.asList(FACE));
        Collections.sort(open);
        Collections.sort(want);
        same("the face is " + open, open.equals(want));
        for (Method m : c.getDeclaredMethods()) {
            same("a private name: " + m.getName(), !Modifier.isPrivate(m.getModifiers()) || !publicNames.contains(m.getName()));
            same("parameters of " + m.getName(), m.getParameterCount() <= 7);
        }
        int openFields = 0;
        for (java.lang.reflect.Field f : c.getDeclaredFields()) {
            openFields += Modifier.isPrivate(f.getModifiers()) ? 0 : 1;
            same("static is final: " + f.getName(), !Modifier.isStatic(f.getModifiers()) || Modifier.isFinal(f.getModifiers()));
        }
        Due.due("open fields: NONE alone", openFields, 1);
        Due.due("constructors", c.getDeclaredConstructors().length, 1);
    }

    private static void insideClasses() {
        Class<?>[] inside = PaidInLeaves.class.getDeclaredClasses();
        same("some twelve classes", inside.length <= 12);
        for (Class<?> c : inside) {
            same(c.getName() + " is static", Modifier.isStatic(c.getModifiers()));
            same(c.getName() + " is not open", !Modifier.isPublic(c.getModifiers()) && !Modifier.isProtected(c.getModifiers()));
            same(c.getName() + " has few fields", c.getDeclaredFields().length <= 20);
            for (Method m : c.getDeclaredMethods()) {
                same(c.getName() + "." + m.getName() + " bears a public name", !Arrays.asList(FACE).toString().contains(" " + m.getName() + "("));
            }
        }
    }

    private static void source(String file) throws IOException {
        String text = Files.readString(Path.of(file));
        same("no package line", !text.contains("\npackage ") && !text.startsWith("package "));
        String code = text.replaceAll("(?s)/\\*.*?\\*/", " ").replaceAll("//[^\n]*", " ").replaceAll("\"[^\"\n]*\"", "\"\"");
        for (String word : new String[] {"throw", "throws", "try", "catch", "synchronized", "assert", "yield", "var",
            "System.currentTimeMillis", "System.nanoTime", "Object", "Exception", "volatile", "transient", "native"}) {
            same("no " + word, !Pattern.compile("\\b" + Pattern.quote(word) + "\\b").matcher(code).find());
        }
        for (String sign : new String[] {"->", "::", "Exact(", "@"}) {
            same("no " + sign, !code.contains(sign));
        }
        Matcher imports = Pattern.compile("import ([^;]*);").matcher(code);
        while (imports.find()) {
            same("import " + imports.group(1), Arrays.asList("java.util.Arrays", "java.util.ArrayList", "java.util.List",
                "java.util.Iterator").contains(imports.group(1)));
        }
        methodLengths(text);
    }

    private static void methodLengths(String text) {
        Pattern head = Pattern.compile("(    |        )(?!if|for|while|switch|else|do )[a-zA-Z].*\\) \\{");
        int begun = -1;
        String end = "";
        String[] lines = text.split("\n");
        for (int i = 0; i < lines.length; i++) {
            Matcher m = head.matcher(lines[i]);
            if (m.matches()) {
                begun = i;
                end = m.group(1) + "}";
            } else if (begun >= 0 && lines[i].equals(end)) {
                same("some sixty lines: " + lines[begun].trim(), i - begun < 60);
                begun = -1;
            }
        }
    }

    private static void same(String call, boolean holds) {
        Due.due(call, holds ? 1 : 0, 1);
    }
}
