import java.io.IOException;
import java.lang.reflect.Constructor;
import java.lang.reflect.Field;
import java.lang.reflect.Method;
import java.lang.reflect.Modifier;
import java.nio.file.Files;
import java.nio.file.Path;
import java.util.HashSet;
import java.util.Set;
import java.util.regex.Matcher;
import java.util.regex.Pattern;

/** The public face, what ../shared/LANGUAGE.md rules out, and that calls make no objects. */
public final class RulesTest {
    private static final String[] FACE = {"int type(int)", "int clear()", "int land()", "int cell(int,int)",
        "int mother(int,int)", "int regiment(int,int)", "int now(int)", "int step()", "int walks(int,int)",
        "int seesOff(int,int)", "int deals(int,int)", "int leads(int,int)", "int undo()", "int where(int,int)",
        "int falls(int)", "int comes(int,int)", "int wave(int,int,int)", "int deal(int,int)",
        "int odds(int,int,int)", "int watches(int,int,int)", "int forget()", "int faced(int)", "int look(int)",
        "int rate(int,int)", "int keep(int)", "int back(int)", "int count(int)", "long trace()"};
    private static final String[] RULED_OUT = {"throw", "throws", "try", "catch", "synchronized", "assert",
        "import", "package", "->", "::", "System", "Random", "Thread", "equals", "hashCode", "toString",
        "static {", "Exception", "Error", "new Object", "@"};

    public static void main(String[] args) throws Exception {
        constants();
        face();
        privateNames();
        source();
        objects();
        Check.end("RulesTest");
    }

    private static void constants() {
        Check.due("BAD", BackMarch.BAD, -1);
        Check.due("STATE", BackMarch.STATE, -2);
        Check.due("FULL", BackMarch.FULL, -3);
        Check.due("NONE", BackMarch.NONE, -9);
        Check.due("NO", BackMarch.NO, -1000000);
    }

    private static void face() {
        Class<?> type = BackMarch.class;
        if (!Modifier.isFinal(type.getModifiers()) || !Modifier.isPublic(type.getModifiers())) {
            Check.fault("BackMarch is to be public and final");
        }
        Set<String> due = new HashSet<>(Set.of(FACE));
        for (Method method : type.getDeclaredMethods()) {
            String told = told(method);
            if (Modifier.isPublic(method.getModifiers()) ? !due.remove(told) : !isPrivate(method.getModifiers())) {
                Check.fault("not of the face: " + told);
            }
        }
        for (String missing : due) {
            Check.fault("missing: " + missing);
        }
        Constructor<?>[] constructors = type.getDeclaredConstructors();
        Check.due("constructors", constructors.length, 1);
        Check.due("their parameters", constructors[0].getParameterCount(), 0);
        int constants = 0;
        for (Field field : type.getDeclaredFields()) {
            int modifiers = field.getModifiers();
            if (Modifier.isPublic(modifiers)) {
                constants++;
            } else if (!isPrivate(modifiers)) {
                Check.fault("not private: " + field.getName());
            }
            if (Modifier.isStatic(modifiers) && !Modifier.isFinal(modifiers)) {
                Check.fault("static and not final: " + field.getName());
            }
        }
        Check.due("public constants", constants, 5);
    }

    private static boolean isPrivate(int modifiers) {
        return Modifier.isPrivate(modifiers);
    }

    private static String told(Method method) {
        StringBuilder told = new StringBuilder();
        told.append(method.getReturnType()).append(' ').append(method.getName()).append('(');
        for (int i = 0; i < method.getParameterCount(); i++) {
            told.append(i == 0 ? "" : ",").append(method.getParameterTypes()[i]);
        }
        return told.append(')').toString();
    }

    private static void privateNames() {
        Set<String> names = new HashSet<>();
        for (String one : FACE) {
            names.add(one.substring(one.indexOf(' ') + 1, one.indexOf('(')));
        }
        for (Method method : BackMarch.class.getDeclaredMethods()) {
            if (!Modifier.isPublic(method.getModifiers()) && names.contains(method.getName())) {
                Check.fault("a private method bears a public name: " + method.getName());
            }
        }
        Class<?>[] inside = BackMarch.class.getDeclaredClasses();
        for (Class<?> type : inside) {
            if (!Modifier.isStatic(type.getModifiers()) || Modifier.isPublic(type.getModifiers())) {
                Check.fault("an inner class that is not static, or public: " + type);
            }
            for (Method method : type.getDeclaredMethods()) {
                if (names.contains(method.getName())) {
                    Check.fault("a method inside bears a public name: " + method.getName());
                }
            }
        }
        if (inside.length > 11) {
            Check.fault("too many classes: " + inside.length);
        }
    }

    private static void source() throws IOException {
        String source = Files.readString(Path.of("src/main/java/BackMarch.java"));
        String code = source.replaceAll("(?s)/\\*.*?\\*/", " ").replaceAll("//[^\n]*", " ");
        for (String word : RULED_OUT) {
            String pattern = word.matches("[A-Za-z]+") ? "\\b" + word + "\\b" : Pattern.quote(word);
            if (Pattern.compile(pattern).matcher(code).find()) {
                Check.fault("ruled out: " + word);
            }
        }
        for (int i = 0; i < source.length(); i++) {
            if (source.charAt(i) > 126) {
                Check.fault("a sign above 126 at " + i);
            }
        }
        Matcher library = Pattern.compile("\\b(Math|Integer|Long)\\.(\\w+)").matcher(code);
        while (library.find()) {
            if (!Set.of("abs", "max", "min", "bitCount").contains(library.group(2))) {
                Check.fault("not of the library that is allowed: " + library.group());
            }
        }
    }

    private static void objects() {
        com.sun.management.ThreadMXBean bean =
                (com.sun.management.ThreadMXBean) java.lang.management.ManagementFactory.getThreadMXBean();
        if (!bean.isThreadAllocatedMemorySupported() || !bean.isThreadAllocatedMemoryEnabled()) {
            return;
        }
        long thread = Thread.currentThread().getId();
        BackMarch x = new BackMarch();
        bean.getThreadAllocatedBytes(thread);
        long before = bean.getThreadAllocatedBytes(thread);
        long bare = bean.getThreadAllocatedBytes(thread) - before;
        before = bean.getThreadAllocatedBytes(thread);
        everyCall(x);
        long spent = bean.getThreadAllocatedBytes(thread) - before - bare;
        if (spent > 2000) {
            Check.fault("calls allocate " + spent + " bytes");
        }
    }

    private static void everyCall(BackMarch x) {
        char[] letters = TEXT;
        for (int often = 0; often < 20; often++) {
            for (char letter : letters) {
                x.type(letter);
            }
            x.land();
            for (int g = 0; g < 4; g++) {
                x.step();
                x.walks(g, often & 3);
                x.seesOff(g, 9);
                x.deals(g, 1);
                x.leads(g, often & 3);
                x.undo();
                x.keep(g & 1);
                x.back(g & 1);
                x.watches(g, 2, 33);
                askAll(x, g);
                x.forget();
            }
            x.type('n');
            x.clear();
        }
    }

    private static void askAll(BackMarch x, int g) {
        x.cell(33, 2);
        x.mother(g, 1);
        x.regiment(g, 0);
        x.now(g);
        x.where(g, 40);
        x.falls(40);
        x.comes(g, 77);
        x.wave(g, 70, 20);
        x.deal(g, 20);
        x.odds(3, g, 0);
        x.faced(g);
        x.look(g);
        x.rate(g, g);
        x.count(g);
        x.trace();
    }

    private static final char[] TEXT =
            "o5 3 0;m3 3;m0 0;m7 7;m1 6;g4 3 0;g2 2 1;g5 6 2;g2 5 3;".toCharArray();
}
