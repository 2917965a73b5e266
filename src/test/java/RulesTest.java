import java.io.IOException;
import java.lang.reflect.Constructor;
import java.lang.reflect.Field;
import java.lang.reflect.Method;
import java.lang.reflect.Modifier;
import java.nio.file.Files;
import java.nio.file.Path;
import java.util.Set;
import java.util.TreeSet;
import java.util.regex.Matcher;
import java.util.regex.Pattern;

/** The rules of LANGUAGE.md that a look at the source or at the class can tell. Run from the project's folder. */
public final class RulesTest {
    private static final String FACE = "carryOut cheapest count drive end extra farthest fault halt hire hour log ofTariff"
        + " price priceOfExtra put rest restore ride save tariff undo wipe would";
    private static int passed = 0;
    private static int failed = 0;

    public static void main(String[] args) throws IOException {
        String source = Files.readString(Path.of("src/main/java/FareDrops.java"));
        wordsOf(source.replaceAll("(?s)/\\*.*?\\*/", "").replaceAll("//[^\n]*", "").replaceAll("\"[^\"\n]*\"", "\"\""));
        face();
        System.out.println(passed + " passed, " + failed + " failed");
        if (failed > 0) {
            System.exit(1);
        }
    }

    private static void holds(String rule, boolean held) {
        if (held) {
            passed++;
        } else {
            failed++;
            System.out.println("broken: " + rule);
        }
    }

    private static void wordsOf(String code) {
        for (String word : "throw throws try catch finally synchronized assert import package protected hashCode".split(" ")) {
            holds("no " + word, !Pattern.compile("\\b" + word + "\\b").matcher(code).find());
        }
        for (String sign : new String[] {"->", "::", "static {", "\" +", "+ \"", "Exact("}) {
            holds("no " + sign, !code.contains(sign));
        }
        Set<String> library = new TreeSet<>();
        Matcher used = Pattern.compile("\\b(Math|System|Integer|Long|Arrays|String|Character|Object)\\.(\\w+)").matcher(code);
        while (used.find()) {
            library.add(used.group());
        }
        holds("only the listed library: " + library, Set.of("Math.max", "Math.min", "System.arraycopy").containsAll(library));
    }

    private static void face() {
        Set<String> methods = new TreeSet<>();
        Set<String> others = new TreeSet<>();
        for (Method method : FareDrops.class.getDeclaredMethods()) {
            (Modifier.isPublic(method.getModifiers()) ? methods : others).add(method.getName());
            holds(method + " is public or private", (method.getModifiers() & (Modifier.PUBLIC | Modifier.PRIVATE)) != 0);
        }
        holds("the face's methods: " + methods, String.join(" ", methods).equals(FACE));
        for (Class<?> inside : FareDrops.class.getDeclaredClasses()) {
            holds(inside + " is static", Modifier.isStatic(inside.getModifiers()));
            holds(inside + " is not public", !Modifier.isPublic(inside.getModifiers()));
            for (Method method : inside.getDeclaredMethods()) {
                others.add(method.getName());
            }
        }
        others.retainAll(methods);
        holds("no other method bears a public one's name: " + others, others.isEmpty());
        int constants = 0;
        for (Field field : FareDrops.class.getDeclaredFields()) {
            boolean isPublic = Modifier.isPublic(field.getModifiers());
            constants += isPublic ? 1 : 0;
            holds(field + " is public or private", isPublic || Modifier.isPrivate(field.getModifiers()));
            holds(field + " is final", Modifier.isFinal(field.getModifiers()));
        }
        holds("six constants", constants == 6);
        Constructor<?>[] constructors = FareDrops.class.getDeclaredConstructors();
        holds("one public constructor", constructors.length == 1 && Modifier.isPublic(constructors[0].getModifiers()));
        holds("the class is final", Modifier.isFinal(FareDrops.class.getModifiers()));
    }
}
