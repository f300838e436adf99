import java.io.IOException;
import java.lang.reflect.Constructor;
import java.lang.reflect.Field;
import java.lang.reflect.Method;
import java.lang.reflect.Modifier;
import java.nio.charset.StandardCharsets;
import java.nio.file.Files;
import java.nio.file.Path;
import java.util.Arrays;
import java.util.List;
import java.util.Set;
import java.util.TreeSet;
import java.util.regex.Matcher;
import java.util.regex.Pattern;

/** The public face, rules of the language that can be looked up, and that no call throws. */
final class FaceTest {
    private static final String[] FACE = {
        "reach int int int", "pond int", "gate int int", "table int int", "house int int int",
        "depth int int int int", "falls int int int", "sooner int int int int", "clock int int int int",
        "mark int int int", "word int int int int", "tear int boolean", "side int int", "doubt int boolean",
        "lets int int int", "possible int", "span int boolean", "hangs int", "sure int",
        "could int int int int int int", "told int int int int", "person int int int", "safe int boolean",
        "name int int", "list int", "thing int int int", "lies int int int", "find int int", "whose int", "days int",
        "feed long int", "read", "claim int int", "proof int int", "claimOf int int int", "why int int int", "odd int",
        "fund int", "pay", "offer int int", "likest int", "round int int", "row int int", "alterRow int int int",
        "dropRow", "judge", "years int int int", "rate int int int", "sheet int int int", "put int int int",
        "item int int int", "shelf int int int", "taken int int", "deal int int int", "trace int", "many int", "keep",
        "again",
    };

    public static void main(String[] args) throws Exception {
        face();
        constants();
        classes();
        source();
        nothingIsThrown();
        Check.finish("FaceTest");
    }

    private static void face() {
        Set<String> found = new TreeSet<>();
        Set<String> hidden = new TreeSet<>();
        for (Method m : BurstValley.class.getDeclaredMethods()) {
            if (Modifier.isPrivate(m.getModifiers())) {
                hidden.add(m.getName());
                continue;
            }
            StringBuilder text = new StringBuilder(m.getName());
            for (Class<?> type : m.getParameterTypes()) {
                text.append(' ').append(type.getName());
            }
            found.add(text.toString());
            Check.isTrue(text + " is public and answers an int",
                    m.getModifiers() == Modifier.PUBLIC && m.getReturnType() == int.class);
        }
        Check.isTrue("the face is that of the document", found.equals(new TreeSet<>(Arrays.asList(FACE))));
        for (String call : FACE) {
            Check.isTrue("no private method is called " + call, !hidden.contains(call.split(" ")[0]));
        }
        Check.isTrue("public and final", BurstValley.class.getModifiers() == (Modifier.PUBLIC | Modifier.FINAL));
        Constructor<?>[] all = BurstValley.class.getDeclaredConstructors();
        Check.isTrue("one public constructor without arguments", all.length == 1
                && all[0].getModifiers() == Modifier.PUBLIC && all[0].getParameterCount() == 0);
    }

    private static void constants() throws IllegalAccessException {
        List<String> names = List.of("BAD", "FULL", "NONE", "STATE");
        for (Field f : BurstValley.class.getDeclaredFields()) {
            int at = names.indexOf(f.getName());
            if (at >= 0) {
                Check.due(f.getName(), f.getInt(null), -1 - at);
                Check.due(f.getName(), f.getModifiers(), Modifier.PUBLIC | Modifier.STATIC | Modifier.FINAL);
            } else {
                Check.isTrue(f.getName() + " is private", Modifier.isPrivate(f.getModifiers()));
            }
        }
    }

    private static void classes() {
        Class<?>[] inside = BurstValley.class.getDeclaredClasses();
        Check.isTrue("twelve classes at most", inside.length + 1 <= 12);
        for (Class<?> c : inside) {
            Check.isTrue(c + " is static and private", Modifier.isStatic(c.getModifiers())
                    && Modifier.isPrivate(c.getModifiers()));
            int fields = 0;
            for (Field f : c.getDeclaredFields()) {
                boolean isStatic = Modifier.isStatic(f.getModifiers());
                fields += isStatic ? 0 : 1;
                Check.isTrue(f + " is final", !isStatic || Modifier.isFinal(f.getModifiers()));
            }
            Check.isTrue(c + " has some twenty fields", fields <= 20);
            for (Method m : c.getDeclaredMethods()) {
                Check.isTrue(m + " takes seven at most", m.getParameterCount() <= 7);
                for (String call : FACE) {
                    Check.isTrue(m + " is no call of the face", !call.split(" ")[0].equals(m.getName()));
                }
            }
        }
    }

    private static void source() throws IOException {
        String all = Files.readString(Path.of("src/main/java/BurstValley.java"), StandardCharsets.ISO_8859_1);
        String code = all.replaceAll("(?s)/\\*.*?\\*/", "").replaceAll("//[^\n]*", "").replaceAll("\"[^\"\n]*\"", "\"\"");
        String[] banned = {"\\bthrow\\b", "\\btry\\b", "\\bcatch\\b", "\\bsynchronized\\b", "\\bassert\\b", "->", "::",
            "static\\s*\\{", "\\bpackage\\b", "\\bSystem\\.(?!arraycopy)", "\\bdouble\\b", "\\bfloat\\b", "Exact\\b",
            "\\bprotected\\b", "@", "[^\\x00-\\x7f]"};
        for (String word : banned) {
            Check.isTrue("no " + word, !Pattern.compile(word).matcher(code).find());
        }
        Matcher imports = Pattern.compile("(?m)^import (.*);$").matcher(code);
        while (imports.find()) {
            Check.isTrue("import " + imports.group(1), imports.group(1).equals("java.util.Arrays"));
        }
        Matcher methods = Pattern.compile("(?ms)^( {4}| {8})(?! )[^\n;=]*\\)\\s*\\{$.*?^\\1\\}$").matcher(code);
        int count = 0;
        while (methods.find()) {
            count++;
            String name = methods.group().trim().split("\\(")[0];
            Check.isTrue(name + " has sixty lines at most", methods.group().split("\n").length <= 60);
        }
        Check.isTrue("methods are seen", count > 150);
    }

    /** Every call with numbers as far out as can be, on a new object and on a full one. */
    private static void nothingIsThrown() throws Exception {
        int[] ints = {Integer.MIN_VALUE, -1, 0, 1, 7, 16, 31, 100, 1000, Integer.MAX_VALUE};
        for (Method m : BurstValley.class.getDeclaredMethods()) {
            if (Modifier.isPrivate(m.getModifiers())) {
                continue;
            }
            BurstValley fresh = new BurstValley();
            BurstValley full = fullTown();
            int n = m.getParameterCount();
            int turns = (int) Math.pow(ints.length, Math.min(n, 4));
            for (int turn = 0; turn < turns; turn++) {
                Object[] args = new Object[n];
                int rest = turn;
                for (int i = 0; i < n; i++) {
                    int v = ints[(rest + i / 4) % ints.length];
                    rest = i < 3 ? rest / ints.length : rest;
                    Class<?> type = m.getParameterTypes()[i];
                    args[i] = type == boolean.class ? (Object) (v > 0) : type == long.class ? (Object) (long) v : v;
                }
                m.invoke(fresh, args);
                m.invoke(full, args);
            }
        }
    }

    private static BurstValley fullTown() {
        BurstValley x = new BurstValley();
        x.pond(9999);
        for (int way = 0; way < 3; way++) {
            ValleyTest.tellTable(x, way, 100 * way, 999, 5, 0, 7, 80, 90, 3);
        }
        for (int i = 0; i < 17; i++) {
            x.house(i % 12, 1 + i, i);
            x.person(i % 10, i % 10, i % 6);
            x.name(i % 10, i % 3 == 0 ? -1 : i % 10);
            x.thing(i % 10, 101 + i, 1 + i);
            x.find(1, i % 12);
            x.claim(i, i % 12);
            x.word(i % 4, 7, 0, 29);
            x.mark(i % 12, 0, 999);
            x.clock(i % 12, 1, 20, 909);
            x.proof(i, -1);
            ActTest.read(x, "pay 50 if fell or found; rank 3 if not (kin=1); bar if worth>900;");
        }
        x.round(127, 3);
        x.shelf(0, 0, 1);
        x.shelf(1, 1, 1);
        x.keep();
        return x;
    }
}
