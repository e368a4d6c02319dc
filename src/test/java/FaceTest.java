import java.io.IOException;
import java.lang.reflect.Constructor;
import java.lang.reflect.Field;
import java.lang.reflect.Method;
import java.lang.reflect.Modifier;
import java.nio.file.Files;
import java.nio.file.Path;
import java.util.Arrays;
import java.util.Set;
import java.util.TreeSet;
import java.util.regex.Matcher;
import java.util.regex.Pattern;

/** The face of the document, nothing more, and the rules of LANGUAGE.md that a text or the class itself shows. */
public final class FaceTest {
    private static final String[] FACE = {
        "int set int int", "int wind int", "int sine int", "int throwing int", "int flight int int",
        "int tune int int int int", "int spread int", "int shot int int", "int clear", "int left", "int span int int",
        "int next", "int surest int int", "int wall int int", "int strength int int int", "int prop int int",
        "int hit int int int", "int cell int int int", "int level int", "int open", "int soonest int int",
        "int scatter int int int", "int worth int int int", "int aim int int", "long held int int int int",
        "int wound", "int sling", "int near int", "int loose int int int", "int store int int", "int wet int int",
        "int lasts int", "int rate int", "int count int", "long trace",
    };
    private static final String[] FORBIDDEN = {
        "\\bthrows?\\b", "\\btry\\b", "\\bcatch\\b", "\\bsynchronized\\b", "\\bassert\\b", "->", "::", "Exact\\b",
        "\\bimport\\b", "\\bpackage\\b", "static\\s*\\{", "\\bSystem\\.(?!arraycopy)", "\\bgoto\\b", "\\bObject\\b",
        "\\bnative\\b", "\\bvolatile\\b", "\\btransient\\b", "@", "\"", "_VALUE\\b",
    };

    private static int wrong = 0;

    private static void due(boolean holds, String what) {
        if (!holds) {
            wrong++;
            System.out.println("not so: " + what);
        }
    }

    public static void main(String[] args) throws IOException {
        constants();
        face();
        insideClasses();
        text(Files.readString(Path.of("src/main/java/WallStones.java")));
        System.out.println(wrong == 0 ? "the face is the document's" : wrong + " rules are broken");
        if (wrong != 0) {
            System.exit(1);
        }
    }

    private static void constants() {
        due(WallStones.BAD == -1 && WallStones.STATE == -2, "BAD, STATE");
        due(WallStones.FULL == -3 && WallStones.NONE == -9, "FULL, NONE");
        due(Modifier.isFinal(WallStones.class.getModifiers()), "the class is final");
    }

    private static void face() {
        Set<String> shown = new TreeSet<>();
        for (Method m : WallStones.class.getDeclaredMethods()) {
            if (!Modifier.isPrivate(m.getModifiers())) {
                due(Modifier.isPublic(m.getModifiers()), m.getName() + " is public or private");
                shown.add(signature(m));
            }
        }
        due(shown.equals(new TreeSet<>(Arrays.asList(FACE))), "the methods are the document's: " + shown);
        Constructor<?>[] made = WallStones.class.getDeclaredConstructors();
        due(made.length == 1 && made[0].getParameterCount() == 0 && Modifier.isPublic(made[0].getModifiers()), "one constructor");
        int open = 0;
        for (Field f : WallStones.class.getDeclaredFields()) {
            open += Modifier.isPrivate(f.getModifiers()) ? 0 : 1;
            due(!Modifier.isStatic(f.getModifiers()) || Modifier.isFinal(f.getModifiers()), f.getName() + " is final, if static");
        }
        due(open == 4, "four public constants");
    }

    private static String signature(Method m) {
        StringBuilder s = new StringBuilder(m.getReturnType().getName() + " " + m.getName());
        for (Class<?> p : m.getParameterTypes()) {
            s.append(' ').append(p.getName());
        }
        return s.toString();
    }

    private static void insideClasses() {
        Set<String> names = new TreeSet<>();
        for (String f : FACE) {
            names.add(f.split(" ")[1]);
        }
        for (Class<?> c : WallStones.class.getDeclaredClasses()) {
            due(Modifier.isStatic(c.getModifiers()), c.getName() + " is static");
            int fields = 0;
            for (Field f : c.getDeclaredFields()) {
                fields += Modifier.isStatic(f.getModifiers()) ? 0 : 1;
                due(!Modifier.isStatic(f.getModifiers()) || Modifier.isFinal(f.getModifiers()), f + " is final, if static");
            }
            due(fields <= 20, c.getName() + " has at most twenty fields");
            for (Method m : c.getDeclaredMethods()) {
                due(!names.contains(m.getName()), m + " bears no public method's name");
                due(m.getParameterCount() <= 7, m + " takes at most seven parameters");
            }
        }
        due(WallStones.class.getDeclaredClasses().length <= 11, "at most twelve classes");
    }

    private static void text(String source) {
        String code = source.replaceAll("(?s)/\\*.*?\\*/", "").replaceAll("//[^\\n]*", "");
        for (String f : FORBIDDEN) {
            Matcher m = Pattern.compile(f).matcher(code);
            due(!m.find(), "no " + f);
        }
        for (int i = 0; i < source.length(); i++) {
            char c = source.charAt(i);
            due(c == '\n' || c >= ' ' && c < 127, "plain signs alone, at " + i);
        }
        // rows are made in constructors alone, so that no call of a run takes any room
        Matcher made = Pattern.compile("\\bnew\\b").matcher(code);
        int news = 0;
        while (made.find()) {
            news++;
        }
        due(news == 18, "what is made is made in constructors: 18 places, not " + news);
    }
}
