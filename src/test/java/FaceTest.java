import java.io.IOException;
import java.lang.reflect.Constructor;
import java.lang.reflect.Field;
import java.lang.reflect.Method;
import java.lang.reflect.Modifier;
import java.nio.file.Files;
import java.nio.file.Path;
import java.util.Set;
import java.util.TreeSet;
import java.util.regex.Matcher;
import java.util.regex.Pattern;

/** The face of the document, and rules of LANGUAGE.md that can be seen from outside. */
public final class FaceTest {
    private static final String FACE = """
        int person(int)
        int of(int,int)
        int set(int,int,int)
        int turn(int,int)
        int as(int,int)
        int move(int,int)
        int leave(int)
        int coins(int)
        int law(int)
        int diver(boolean,int)
        int hours(int)
        int now(int)
        int runs()
        int thrown(int)
        int gain(int)
        int all()
        int on(int,int)
        int empty()
        int gainIf(int,int)
        int best(int)
        int sorry()
        int regret(int)
        int stand(int)
        int kind(int)
        int lie()
        int word()
        int fair()
        int rests()
        int rest()
        int feed(int,int)
        int wipe()
        int square()
        int sheet(int,int,int)
        long write(int,int,long)
        int copy(int,int,int,int,int)
        int lays(int)
        int book(int)
        int read(int,int)
        int image()
        int undo()
        int tear()
        int count(int)
        int status(int)
        """;

    public static void main(String[] args) throws IOException {
        Class<?> c = CoinFountain.class;
        int wanted = Modifier.PUBLIC | Modifier.FINAL;
        Due.is("the class is public and final", c.getModifiers() & wanted, wanted);
        constructors(c);
        methods(c);
        fields(c);
        source(Files.readString(Path.of("src/main/java/CoinFountain.java")));
        Due.end();
    }

    private static void constructors(Class<?> c) {
        Constructor<?>[] all = c.getDeclaredConstructors();
        Due.is("constructors", all.length, 1);
        Due.holds("it is public, without parameters", Modifier.isPublic(all[0].getModifiers()) && all[0].getParameterCount() == 0);
    }

    private static void methods(Class<?> c) {
        Set<String> due = new TreeSet<>(FACE.lines().map(String::strip).toList());
        Set<String> names = new TreeSet<>();
        Set<String> seen = new TreeSet<>();
        for (Method m : c.getDeclaredMethods()) {
            if (Modifier.isPublic(m.getModifiers())) {
                seen.add(told(m));
                names.add(m.getName());
            }
        }
        Due.same("public methods", seen.toString(), due.toString());
        for (Method m : c.getDeclaredMethods()) {
            boolean isPrivate = Modifier.isPrivate(m.getModifiers());
            Due.holds(m + " is public or private", isPrivate || Modifier.isPublic(m.getModifiers()));
            Due.holds(m + " bears a name of its own", !isPrivate || !names.contains(m.getName()));
        }
        for (Class<?> inside : c.getDeclaredClasses()) {
            Due.holds(inside + " is static", Modifier.isStatic(inside.getModifiers()));
            for (Method m : inside.getDeclaredMethods()) {
                Due.holds(m + " bears a name of its own", !names.contains(m.getName()));
            }
        }
    }

    private static String told(Method m) {
        StringBuilder text = new StringBuilder(m.getReturnType().getName()).append(' ').append(m.getName()).append('(');
        for (Class<?> p : m.getParameterTypes()) {
            text.append(text.charAt(text.length() - 1) == '(' ? "" : ",").append(p.getName());
        }
        return text.append(')').toString();
    }

    private static void fields(Class<?> c) {
        for (Field f : c.getDeclaredFields()) {
            Due.holds(f + " is private", Modifier.isPrivate(f.getModifiers()));
            Due.holds(f + " is final if it is static", !Modifier.isStatic(f.getModifiers()) || Modifier.isFinal(f.getModifiers()));
        }
    }

    private static void source(String whole) {
        String code = whole.replaceAll("(?s)/\\*.*?\\*/", "").replaceAll("//[^\\n]*", "");
        String[] banned = {"throw", "throws", "try", "catch", "finally", "synchronized", "assert", "import", "package", "volatile", "transient",
            "equals", "hashCode", "toString", "instanceof", "protected"};
        for (String word : banned) {
            Due.holds("no " + word, !Pattern.compile("\\b" + word + "\\b").matcher(code).find());
        }
        Due.holds("no lambda, no method reference", !code.contains("->") && !code.contains("::"));
        Due.holds("nothing that ends in Exact", !code.contains("Exact("));
        Matcher library = Pattern.compile("\\b(Math|Integer|Long|System|Arrays)\\.(\\w+)").matcher(code);
        Set<String> may = Set.of("Math.min", "Math.max", "Math.abs", "Integer.bitCount", "System.arraycopy");
        while (library.find()) {
            Due.holds(library.group() + " may be used", may.contains(library.group()));
        }
        methodsAreShort(code);
    }

    private static void methodsAreShort(String code) {
        int begun = 0;
        int at = 0;
        for (String line : code.split("\n")) {
            at++;
            if (line.matches("( {4}| {8})\\S.*\\) \\{") && !line.matches(" *(if|for|while|switch|\\}).*")) {
                begun = at;
            }
            Due.holds("line " + at + " is in a method of at most 60 lines", !line.matches("( {4}| {8})\\}") || at - begun <= 60 || begun == 0);
            if (line.matches("( {4}| {8})\\}")) {
                begun = 0;
            }
        }
    }
}
