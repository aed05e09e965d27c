import java.io.IOException;
import java.lang.reflect.Constructor;
import java.lang.reflect.Field;
import java.lang.reflect.Method;
import java.lang.reflect.Modifier;
import java.nio.file.Files;
import java.nio.file.Path;
import java.util.ArrayList;
import java.util.Arrays;
import java.util.List;
import java.util.Set;
import java.util.TreeSet;

/** The public face is the document's, to the letter, and the file keeps to those rules that can be looked up. */
public final class FaceTests {
    private static final String[] FACE = {
        "void make(int,int) throws Argument",
        "void copy(int,int) throws Argument,State",
        "int size(int) throws Argument,State",
        "int kind(int) throws Argument",
        "int add(int,int,long) throws Argument,State,Bounds",
        "void push(int,int,long) throws Argument,State,Bounds",
        "long set(int,int,int,long) throws Argument,State,None",
        "long at(int,int) throws Argument,State,None,Arithmetic,Bounds",
        "int drop(int,int,int,boolean) throws Argument,State,None",
        "long pop(int,int) throws Argument,State,None,Arithmetic,Bounds",
        "long front(int) throws Argument,State,None",
        "int put(int,int,long,long) throws Argument,State,Bounds",
        "long find(int,long) throws Argument,State,None",
        "int out(int,int,long) throws Argument,State",
        "long near(int,long,int) throws Argument,State,None",
        "int range(int,int,long,long) throws Argument,State,Bounds",
        "int join(int,int,int) throws Argument,State,Bounds",
        "int meet(int,int,int,boolean) throws Argument,State,Bounds",
        "int shape(int) throws Argument,State",
        "boolean same(int,int) throws Argument,State,Bounds",
        "void map(int,int,int,long) throws Argument,State,Arithmetic,Bounds",
        "void filter(int,int,int,long) throws Argument,State,Arithmetic,Bounds",
        "void iterate(int,long,int,long) throws Argument",
        "void take(int,int,int) throws Argument,State,Bounds",
        "int list(int,int,int) throws Argument,State,Arithmetic,Bounds",
        "void turn(int,int) throws Argument,State,Bounds",
        "void open(int,int) throws Argument,State",
        "int build(int,int,long,long) throws Argument,State,Unsupported,None,Bounds",
        "long look(int,long) throws Argument,State,None",
        "int freeze(int,int) throws Argument,State",
        "int count(int) throws Argument",
    };

    private static final String[] FORBIDDEN = {
        "catch", "finally", "->", "::", "synchronized", "assert", "Exact(", "java.io", "java.time", "Random",
        "System.out", "System.nanoTime", "Thread", "instanceof", "Object", "package ", "float", "double",
    };

    private static int wrong;

    public static void main(String[] args) throws IOException {
        face();
        classes();
        source();
        if (wrong > 0) {
            System.exit(1);
        }
    }

    private static void due(boolean fine, String text) {
        if (!fine) {
            wrong++;
            System.out.println(text);
        }
    }

    private static String shortName(Class<?> type) {
        switch (type.getName()) {
            case "java.lang.IllegalArgumentException":
                return "Argument";
            case "java.lang.IllegalStateException":
                return "State";
            case "java.lang.IndexOutOfBoundsException":
                return "Bounds";
            case "java.lang.ArithmeticException":
                return "Arithmetic";
            case "java.lang.UnsupportedOperationException":
                return "Unsupported";
            case "java.util.NoSuchElementException":
                return "None";
            default:
                return type.getName();
        }
    }

    private static String listed(Class<?>[] types) {
        List<String> names = new ArrayList<>();
        for (Class<?> type : types) {
            names.add(shortName(type));
        }
        return String.join(",", names);
    }

    private static void face() {
        Set<String> got = new TreeSet<>();
        for (Method method : PersistentTrove.class.getDeclaredMethods()) {
            if (!Modifier.isPrivate(method.getModifiers()) && !method.isSynthetic()) {
                due(method.getModifiers() == Modifier.PUBLIC, method + " is not public alone");
                got.add(method.getReturnType() + " " + method.getName() + "(" + listed(method.getParameterTypes())
                        + ") throws " + listed(method.getExceptionTypes()));
            }
        }
        Set<String> want = new TreeSet<>(Arrays.asList(FACE));
        for (String line : want) {
            due(got.contains(line), "not there: " + line);
        }
        for (String line : got) {
            due(want.contains(line), "too much: " + line);
        }
        Constructor<?>[] constructors = PersistentTrove.class.getDeclaredConstructors();
        due(constructors.length == 1 && Modifier.isPublic(constructors[0].getModifiers())
                && listed(constructors[0].getParameterTypes()).equals("int"), "the constructor is not as due");
        due(PersistentTrove.class.getModifiers() == (Modifier.PUBLIC | Modifier.FINAL), "not public and final");
        for (Field field : PersistentTrove.class.getDeclaredFields()) {
            due(Modifier.isPrivate(field.getModifiers()), field + " is not private");
        }
    }

    private static void classes() {
        Set<String> open = new TreeSet<>();
        for (Method method : PersistentTrove.class.getMethods()) {
            open.add(method.getName());
        }
        Class<?>[] inside = PersistentTrove.class.getDeclaredClasses();
        due(inside.length <= 11, "too many classes");
        List<Class<?>> all = new ArrayList<>(Arrays.asList(inside));
        all.add(PersistentTrove.class);
        for (Class<?> one : all) {
            int own = 0;
            for (Field field : one.getDeclaredFields()) {
                boolean fixed = Modifier.isStatic(field.getModifiers());
                own += fixed ? 0 : 1;
                due(!fixed || Modifier.isFinal(field.getModifiers()), field + " is static, but not final");
            }
            due(own <= 20, one + " has too many fields");
            for (Method method : one.getDeclaredMethods()) {
                boolean mine = one != PersistentTrove.class || Modifier.isPrivate(method.getModifiers());
                due(!mine || !open.contains(method.getName()), method + " bears the name of a public one");
                due(method.getParameterCount() <= 7, method + " has too many parameters");
            }
        }
    }

    private static void source() throws IOException {
        List<String> lines = Files.readAllLines(Path.of(System.getProperty("source")));
        int start = 0;
        for (int i = 0; i < lines.size(); i++) {
            String line = lines.get(i);
            String code = line.trim();
            boolean comment = code.startsWith("//") || code.startsWith("*") || code.startsWith("/*");
            for (String word : FORBIDDEN) {
                due(comment || !code.contains(word), "line " + (i + 1) + " has " + word);
            }
            due(!code.startsWith("import ") || code.equals("import java.util.NoSuchElementException;"),
                    "line " + (i + 1) + " imports");
            due(line.chars().allMatch(c -> c >= ' ' && c < 127), "line " + (i + 1) + " has a strange character");
            int indent = line.length() - line.stripLeading().length();
            if (code.endsWith("{") && (indent == 4 || indent == 8)) {
                start = i;
            }
            boolean end = code.equals("}") && (indent == 4 || indent == 8);
            due(!end || i - start < 60, "line " + (i + 1) + " ends a method that is too long");
        }
    }
}
