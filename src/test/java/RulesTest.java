import java.io.IOException;
import java.lang.reflect.Constructor;
import java.lang.reflect.Field;
import java.lang.reflect.Method;
import java.lang.reflect.Modifier;
import java.nio.file.Files;
import java.nio.file.Path;
import java.util.ArrayList;
import java.util.List;
import java.util.Set;
import java.util.TreeSet;
import java.util.regex.Matcher;
import java.util.regex.Pattern;

/** What can be seen of LANGUAGE.md in the compiled class and in its text. It is run from the project's folder. */
public final class RulesTest {
    private static final Path SOURCE = Path.of("src/main/java/DebtTable.java");

    private static final List<String> FACE = List.of(
            "int feed(int,int,int,int,int)", "boolean end(int)", "int shire()", "int fault()",
            "int house(int,int) throws java.util.NoSuchElementException",
            "int worth(int) throws java.util.NoSuchElementException", "int debt(int,int)", "int at(int,int)",
            "int now(int)", "int pay(int,int)", "int borrow(int,int,int)", "int sell(int,int)", "int forgive(int)",
            "int clear(int,int)", "int years(int)", "int undo()", "int top(int)", "int able(int)", "int ableOf()",
            "int meets(int)", "int ring(int)", "int ringAt(int)", "int settle()", "int which()", "int ask()",
            "int fullest()", "int mean(int,int) throws java.util.NoSuchElementException", "int line(int)",
            "int byteAt(int)", "int drawn(int,int)", "int odds(int,int,int)", "int book(int)", "int told(int)",
            "int sentence()", "int said(int)", "boolean image(int)", "boolean restore(int)", "int count(int)");

    private static final String[] NOT_ALLOWED = {"->", "::", "\\bsynchronized\\b", "\\bassert\\b", "\\bfinally\\b",
        "\\btry\\b", "\\bcatch\\b", "\\bvolatile\\b", "\\bnative\\b", "\\bhashCode\\b", "\\btoString\\b",
        "\\bordinal\\b", "\\bcompareTo\\b", "Exact\\b", "\\bObject\\b", "\\bThread\\b", "\\bRandom\\b",
        "\\bSystem\\.(?!arraycopy)", "\\bdouble\\b", "\\bfloat\\b", "\\bvar\\b", "\\bpublic static(?! final int NONE)",
        "\\bstatic \\{", "[^\\x00-\\x7f]", "\\bString\\.", "\\bString \\w+ = .*\\+"};

    private RulesTest() { }

    public static void main(String[] args) throws IOException {
        Check.about("the face");
        face();
        Check.about("the classes inside");
        nested();
        Check.about("the text");
        String source = Files.readString(SOURCE);
        text(source);
        methods(source);
        Check.end();
    }

    private static String shape(Method m) {
        StringBuilder sb = new StringBuilder();
        sb.append(m.getReturnType().getName()).append(' ').append(m.getName()).append('(');
        for (int i = 0; i < m.getParameterCount(); i++) {
            sb.append(i == 0 ? "" : ",").append(m.getParameterTypes()[i].getName());
        }
        sb.append(')');
        for (Class<?> e : m.getExceptionTypes()) {
            sb.append(" throws ").append(e.getName());
        }
        return sb.toString();
    }

    private static void face() {
        Set<String> open = new TreeSet<>();
        for (Method m : DebtTable.class.getDeclaredMethods()) {
            if (Modifier.isPublic(m.getModifiers())) {
                Check.is(false, Modifier.isStatic(m.getModifiers()));
                open.add(shape(m));
            } else if (!Modifier.isPrivate(m.getModifiers())) {
                Check.fail("neither public nor private: " + m);
            }
        }
        Check.isText(new TreeSet<>(FACE).toString(), open.toString());
        for (Field f : DebtTable.class.getDeclaredFields()) {
            if (!Modifier.isPrivate(f.getModifiers()) && !f.getName().equals("NONE")) {
                Check.fail("not private: " + f);
            }
        }
        Constructor<?>[] made = DebtTable.class.getDeclaredConstructors();
        Check.is(1, made.length);
        Check.is(true, Modifier.isPublic(made[0].getModifiers()));
        Check.is(0, made[0].getParameterCount());
        Check.is(true, Modifier.isFinal(DebtTable.class.getModifiers()));
        Check.is(-1, DebtTable.NONE);
    }

    private static void nested() {
        Set<String> names = new TreeSet<>();
        for (String shape : FACE) {
            names.add(shape.substring(shape.indexOf(' ') + 1, shape.indexOf('(')));
        }
        List<Class<?>> all = new ArrayList<>(List.of(DebtTable.class.getDeclaredClasses()));
        Check.is(true, all.size() <= 12);
        for (Class<?> c : all) {
            int modifiers = c.getModifiers();
            Check.is(true, Modifier.isStatic(modifiers));
            Check.is(false, Modifier.isPublic(modifiers) || Modifier.isProtected(modifiers));
        }
        all.add(DebtTable.class);
        for (Class<?> c : all) {
            int fields = 0;
            for (Field f : c.getDeclaredFields()) {
                if (Modifier.isStatic(f.getModifiers())) {
                    Check.is(true, Modifier.isFinal(f.getModifiers()));
                } else {
                    fields++;
                }
            }
            Check.is(true, fields <= 20);
            for (Method m : c.getDeclaredMethods()) {
                Check.is(true, m.getParameterCount() <= 7);
                if (names.contains(m.getName()) && (c != DebtTable.class || !Modifier.isPublic(m.getModifiers()))) {
                    Check.fail("bears the name of a public one: " + m);
                }
            }
        }
    }

    private static void text(String source) {
        String code = source.replaceAll("(?s)/\\*.*?\\*/", "").replaceAll("//[^\\n]*", "")
                .replaceAll("\"[^\"\\n]*\"", "\"\"");
        for (String pattern : NOT_ALLOWED) {
            Matcher m = Pattern.compile(pattern).matcher(code);
            if (m.find()) {
                Check.fail("not allowed: " + pattern + " in '" + code.substring(Math.max(0, m.start() - 30),
                        Math.min(code.length(), m.end() + 20)).replace('\n', ' ') + "'");
            }
        }
        Matcher imports = Pattern.compile("(?m)^import (.*);").matcher(code);
        while (imports.find()) {
            Check.isText("java.util.NoSuchElementException", imports.group(1));
        }
        Check.is(false, code.contains("package "));
    }

    /** Each method has at most some sixty lines. */
    private static void methods(String source) {
        String[] lines = source.split("\n");
        for (int i = 0; i < lines.length; i++) {
            Matcher m = Pattern.compile("^( +)(?!private static final class|private enum)[\\w\\[\\] ]+\\(.*\\{$")
                    .matcher(lines[i]);
            if (m.find() && m.group(1).length() <= 8) {
                int end = i;
                while (end < lines.length && !lines[end].equals(m.group(1) + "}")) {
                    end++;
                }
                if (end - i > 60) {
                    Check.fail("long: " + lines[i]);
                }
            }
        }
    }
}
