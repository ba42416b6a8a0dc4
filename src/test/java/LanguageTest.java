import java.io.IOException;
import java.lang.management.ManagementFactory;
import java.lang.reflect.Constructor;
import java.lang.reflect.Field;
import java.lang.reflect.Method;
import java.lang.reflect.Modifier;
import java.nio.charset.StandardCharsets;
import java.nio.file.Files;
import java.nio.file.Path;
import java.util.ArrayList;
import java.util.List;
import java.util.NoSuchElementException;
import java.util.TreeSet;
import java.util.regex.Matcher;
import java.util.regex.Pattern;

/** The face of the class, the part of Java that it is written in, and what its calls take of the room. */
public final class LanguageTest {
    private static final Check CHECK = new Check("LanguageTest");
    private static final Path SOURCE = Path.of("src/main/java/HotThrough.java");
    private static final String[] FACE = {"int sign(int)", "boolean end(int)", "int kitchen()", "int rule()",
        "int place(int,int) throws", "int way(int,int) throws", "int pot(int,int) throws", "int person(int,int) throws",
        "int heat(int,int)", "int sheet(int,int,int,int)", "int take(int,int)", "int down(int)", "int walk(int,int)",
        "int pass(int)", "int change(int)", "int give(int,int)", "int fold(int,int)", "int door(int,int)",
        "int dinner()", "int undo()", "int lasts(int)", "int swaps(int,int)", "int often(int)",
        "int layers(int,int,int)", "int hottest(int,int,int)", "int path(int,int)", "int clear(int,int)",
        "int far(int,int)", "int rests(int,int,int)", "int soonest(int,int)", "int chain(int,int,int)",
        "int serve(int,int,int,int)", "int mark(int,int)", "int wipe()", "int fits(int,int)",
        "int dinners(int,int,int,int)", "boolean keep(int)", "boolean again(int)", "int count(int)",
        "long row(int) throws"};

    public static void main(String[] args) throws IOException {
        face();
        members();
        source();
        room();
        longRun();
        CHECK.finish();
    }

    private static void face() {
        TreeSet<String> due = new TreeSet<>(List.of(FACE));
        TreeSet<String> found = new TreeSet<>();
        for (Method method : HotThrough.class.getDeclaredMethods()) {
            if (Modifier.isPublic(method.getModifiers())) {
                StringBuilder s = new StringBuilder(method.getReturnType().getName() + " " + method.getName() + "(");
                for (Class<?> type : method.getParameterTypes()) {
                    s.append(s.charAt(s.length() - 1) == '(' ? "" : ",").append(type.getName());
                }
                s.append(")");
                for (Class<?> type : method.getExceptionTypes()) {
                    s.append(type == NoSuchElementException.class ? " throws" : " throws another");
                }
                found.add(s.toString());
                CHECK.due(method.getName() + " static", Modifier.isStatic(method.getModifiers()), false);
            }
        }
        CHECK.due("the face is as told: " + found, found.equals(due), true);
        CHECK.due("final", Modifier.isFinal(HotThrough.class.getModifiers()), true);
    }

    private static void members() {
        TreeSet<String> names = new TreeSet<>();
        for (String s : FACE) {
            names.add(s.substring(s.indexOf(' ') + 1, s.indexOf('(')));
        }
        List<Class<?>> all = new ArrayList<>(List.of(HotThrough.class.getDeclaredClasses()));
        CHECK.due("some twelve classes", all.size() <= 11, true);
        for (Class<?> inner : all) {
            int bits = inner.getModifiers();
            CHECK.due(inner + " is private and static", Modifier.isPrivate(bits) && Modifier.isStatic(bits), true);
        }
        for (Field field : HotThrough.class.getDeclaredFields()) {
            boolean hidden = Modifier.isPrivate(field.getModifiers()) || field.getName().equals("NONE");
            CHECK.due(field + " is private", hidden, true);
        }
        for (Constructor<?> constructor : HotThrough.class.getDeclaredConstructors()) {
            CHECK.due(constructor + " has no arguments", constructor.getParameterCount(), 0);
        }
        all.add(HotThrough.class);
        for (Class<?> one : all) {
            int fields = 0;
            for (Field field : one.getDeclaredFields()) {
                boolean fixed = Modifier.isStatic(field.getModifiers());
                CHECK.due(field + " is final, if it is static", !fixed || Modifier.isFinal(field.getModifiers()), true);
                fields += fixed ? 0 : 1;
            }
            CHECK.due(one + " has some twenty fields", fields <= 20, true);
            for (Method method : one.getDeclaredMethods()) {
                boolean shown = one == HotThrough.class && Modifier.isPublic(method.getModifiers());
                boolean hidden = one != HotThrough.class || Modifier.isPrivate(method.getModifiers());
                CHECK.due(method + " is of the face or private", shown || hidden, true);
                CHECK.due(method + " has a name of its own", shown || !names.contains(method.getName()), true);
                CHECK.due(method + " has seven parameters at most", method.getParameterCount() <= 7, true);
            }
        }
    }

    private static void source() throws IOException {
        String text = Files.readString(SOURCE, StandardCharsets.ISO_8859_1);
        String code = Pattern.compile("/\\*.*?\\*/|//[^\n]*", Pattern.DOTALL).matcher(text).replaceAll("");
        String[] ruledOut = {"\\bcatch\\b", "\\btry\\b", "\\bfinally\\b", "\\bsynchronized\\b", "\\bassert\\b", "->", "::",
            "\\bimport (?!java\\.util\\.NoSuchElementException;)", "static \\{", "\\bException\\b", "\\bSystem\\.(?!arraycopy)",
            "\\bThread\\b", "\\bRandom\\b", "\"", "Exact\\(", "\\bdouble\\b", "\\bfloat\\b", "\\bObject\\b", "\\bpackage\\b",
            "\\[\\]\\[\\]", "\\bprotected\\b", "while \\(true\\)", "for \\(;;\\)", "\\bvar\\b", "\\bequals\\b", "[^\\x00-\\x7f]"};
        for (String pattern : ruledOut) {
            Matcher matcher = Pattern.compile(pattern).matcher(code);
            CHECK.due("the program has " + pattern, matcher.find(), false);
        }
        int start = 0;
        String[] lines = text.split("\n");
        for (int i = 0; i < lines.length; i++) {
            CHECK.due("line " + (i + 1) + " is short", lines[i].length() <= 120, true);
            if (lines[i].matches("( {4}| {8})(public|private|static|final|boolean|int|void|[A-Z]\\w*\\().*\\{")) {
                start = i;
            }
            if (lines[i].matches("( {4}| {8})\\}") && !lines[start].contains("class ")) {
                CHECK.due("the method at line " + (start + 1) + " has some sixty lines", i - start <= 60, true);
            }
        }
    }

    private static final com.sun.management.ThreadMXBean THREADS =
        (com.sun.management.ThreadMXBean) ManagementFactory.getThreadMXBean();

    private static long taken() {
        return THREADS.getCurrentThreadAllocatedBytes();
    }

    /** No call makes an object: all are made with the first one. */
    private static void room() {
        long[] seen = new long[3];
        for (int round = 0; round < 3; round++) {
            HotThrough x = Check.told("b;b;b;b;t;wab2;wbc2;wcd2;wde2;wae9!;p200-5@a;p300-1@b;h60@a;h90@c");
            Check.rule(x, "h/(10*f+20)+1");
            x.fold(0, 2);
            x.take(0, 0);
            long before = taken();
            calls(x);
            seen[round] = taken() - before;
        }
        CHECK.due("bytes that calls take", Math.min(seen[1], seen[2]), 0);
        long before = taken();
        HotThrough x = new HotThrough();
        long bytes = taken() - before;
        CHECK.due("a new object is small: " + bytes, bytes < 40000 && x.count(0) == 0, true);
    }

    private static void calls(HotThrough x) {
        x.sign(0x663b0000);
        x.end(1);
        x.kitchen();
        x.sign(0x682b6800);
        x.rule();
        x.sign(0x73313b73);
        x.dinner();
        x.lasts(0);
        x.swaps(0, 3);
        x.often(0);
        x.layers(0, 0, 9);
        x.hottest(0, 0, 9);
        x.path(0, 4);
        x.clear(0, 4);
        x.far(0, 4);
        x.rests(0, 4, 9);
        x.soonest(0, 4);
        x.chain(1, 4, 2);
        x.serve(1, 2, 4, 0);
        x.mark(2, 4);
        x.fits(0, 4);
        x.wipe();
        x.dinners(0, 4, 9, 50);
        x.keep(1);
        x.walk(0, 0);
        x.pass(3);
        x.change(0);
        x.give(0, 1);
        x.door(4, 1);
        x.down(0);
        x.heat(0, 9);
        x.sheet(2, 5, 7, 9);
        x.undo();
        x.again(1);
        x.count(7);
        x.person(0, 8);
    }

    /** Any numbers in any state: nothing but the document's exception is thrown. */
    private static void longRun() {
        int[] numbers = {Integer.MIN_VALUE, -101, -1, 0, 1, 2, 3, 4, 5, 9, 14, 31, 60, 99, 300, 999, 65536, Integer.MAX_VALUE};
        java.util.Random random = new java.util.Random(5);
        Method[] methods = HotThrough.class.getDeclaredMethods();
        java.util.Arrays.sort(methods, java.util.Comparator.comparing(Method::getName));
        int thrown = 0;
        for (int run = 0; run < 60; run++) {
            HotThrough x = run % 2 == 0 ? new HotThrough()
                : Check.told("b;b;b;t;wab2;wbc2!;wcd2;wad1!;p200-5@a;p300-1@b;h60@a;h90@c");
            for (int k = 0; k < 500; k++) {
                Method method = methods[random.nextInt(methods.length)];
                if (Modifier.isPublic(method.getModifiers())) {
                    Object[] arguments = new Object[method.getParameterCount()];
                    for (int i = 0; i < arguments.length; i++) {
                        arguments[i] = numbers[random.nextInt(numbers.length)];
                    }
                    thrown += fails(x, method, arguments) ? 1 : 0;
                }
            }
        }
        CHECK.due("calls that threw another exception", thrown, 0);
    }

    private static boolean fails(HotThrough x, Method method, Object[] arguments) {
        try {
            method.invoke(x, arguments);
            return false;
        } catch (ReflectiveOperationException e) {
            boolean due = e.getCause() != null && e.getCause().getClass() == NoSuchElementException.class
                && method.getExceptionTypes().length == 1;
            if (!due) {
                System.out.println(method + " threw " + e.getCause());
            }
            return !due;
        }
    }
}
