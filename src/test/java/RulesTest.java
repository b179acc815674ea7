import java.io.IOException;
import java.lang.reflect.Constructor;
import java.lang.reflect.Field;
import java.lang.reflect.Method;
import java.lang.reflect.Modifier;
import java.nio.file.Files;
import java.nio.file.Path;
import java.util.List;
import java.util.TreeSet;

/** What LANGUAGE.md asks of the source, as far as it can be seen from outside; and the document's face. */
final class RulesTest {
    private static final Check CHECK = new Check("RulesTest");
    private static final Path SOURCE = Path.of("src/main/java/SleptBread.java");
    private static final List<String> METHODS = List.of(
        "feed(int)", "street()", "fault()", "told(int)", "weight(int,int)", "odds(int,int,int)", "likeliest(int)",
        "loaf(int,int)", "worth(int,int)", "lay(int,int)", "takeOff(int)", "wake(int,boolean)", "night(int)",
        "eat(int)", "salt(int)", "beds(int)", "feedings(int,int)", "foretold(int,int,int)", "settled()",
        "awake(int,int)", "bite(int)", "mayBe()", "whose()", "howLikely(int)", "crumbs(int)", "hire(int,int)",
        "bread(int)", "write(int,int,int)", "tear()", "judge()", "seed(int)", "keep(int)", "goBack(int)");
    private static final List<String> CONSTANTS = List.of("NONE", "UNKNOWN", "OUTSIDE", "NOT", "FULL");
    private static final List<String> FORBIDDEN = List.of("throw", "throws", "try", "catch", "finally", "synchronized",
        "assert", "package", "native", "volatile", "transient", "instanceof", "var", "yield", "goto", "Object",
        "System.out", "System.in", "System.err", "Random", "Thread");

    public static void main(String[] args) throws IOException {
        face();
        classesInside();
        String source = Files.readString(SOURCE);
        words(source);
        lengths(source);
        CHECK.finish();
    }

    private static boolean isPrivate(int modifiers) {
        return Modifier.isPrivate(modifiers);
    }

    private static String signature(Method method) {
        StringBuilder all = new StringBuilder(method.getName()).append('(');
        for (int i = 0; i < method.getParameterCount(); i++) {
            all.append(i == 0 ? "" : ",").append(method.getParameterTypes()[i].getSimpleName());
        }
        return all.append(')').toString();
    }

    private static void face() {
        Class<SleptBread> face = SleptBread.class;
        CHECK.holds("public and final", Modifier.isPublic(face.getModifiers()) && Modifier.isFinal(face.getModifiers()));
        TreeSet<String> seen = new TreeSet<>();
        TreeSet<String> names = new TreeSet<>();
        for (Method method : face.getDeclaredMethods()) {
            if (!isPrivate(method.getModifiers())) {
                CHECK.holds(method + " is public, of int", Modifier.isPublic(method.getModifiers())
                    && !Modifier.isStatic(method.getModifiers()) && method.getReturnType() == int.class);
                seen.add(signature(method));
                names.add(method.getName());
            }
        }
        CHECK.holds("the methods of the document: " + seen, seen.equals(new TreeSet<>(METHODS)));
        for (Method method : face.getDeclaredMethods()) {
            CHECK.holds("private " + method.getName(), !isPrivate(method.getModifiers()) || !names.contains(method.getName()));
        }
        TreeSet<String> constants = new TreeSet<>();
        for (Field field : face.getDeclaredFields()) {
            if (!isPrivate(field.getModifiers())) {
                constants.add(field.getName());
            }
        }
        CHECK.holds("the constants of the document: " + constants, constants.equals(new TreeSet<>(CONSTANTS)));
        Constructor<?>[] made = face.getDeclaredConstructors();
        CHECK.holds("one public constructor", made.length == 1 && Modifier.isPublic(made[0].getModifiers())
            && made[0].getParameterCount() == 0);
    }

    private static void classesInside() {
        Class<?>[] inside = SleptBread.class.getDeclaredClasses();
        CHECK.holds("some twelve classes", inside.length <= 12);
        fields(SleptBread.class);
        for (Class<?> one : inside) {
            int modifiers = one.getModifiers();
            CHECK.holds(one + " is static", Modifier.isStatic(modifiers));
            CHECK.holds(one + " is not public", !Modifier.isPublic(modifiers) && !Modifier.isProtected(modifiers));
            fields(one);
            for (Method method : one.getDeclaredMethods()) {
                CHECK.holds(method + " has seven parameters at most", method.getParameterCount() <= 7);
                CHECK.holds(method + " is not of the face's names",
                    METHODS.stream().noneMatch(known -> known.startsWith(method.getName() + "(")));
            }
        }
    }

    private static void fields(Class<?> one) {
        int own = 0;
        for (Field field : one.getDeclaredFields()) {
            boolean isStatic = Modifier.isStatic(field.getModifiers());
            CHECK.holds(field + " is final if it is static", !isStatic || Modifier.isFinal(field.getModifiers()));
            own += isStatic ? 0 : 1;
        }
        CHECK.holds(one + " has some twenty fields at most", own <= 20);
    }

    private static void words(String source) {
        String bare = source.replaceAll("(?s)/\\*.*?\\*/", "").replaceAll("//[^\n]*", "");
        for (String word : FORBIDDEN) {
            boolean found = java.util.regex.Pattern.compile("\\b" + java.util.regex.Pattern.quote(word) + "\\b")
                .matcher(bare).find();
            CHECK.holds("no '" + word + "'", !found);
        }
        CHECK.holds("no lambda, no arrow", !bare.contains("->"));
        CHECK.holds("no method reference", !bare.contains("::"));
        CHECK.holds("no Exact", !bare.contains("Exact"));
        CHECK.holds("no other signs", source.chars().allMatch(c -> c == '\n' || (c >= ' ' && c < 127)));
        for (String line : bare.split("\n")) {
            CHECK.holds("import: " + line, !line.startsWith("import") || line.equals("import java.util.Arrays;"));
        }
    }

    private static void lengths(String source) {
        int opened = 0;
        String[] lines = source.split("\n");
        for (int i = 0; i < lines.length; i++) {
            boolean opens = lines[i].matches(" {4}( {4})?[a-zA-Z].*\\) \\{");
            opened = opens ? i : opened;
            boolean closes = lines[i].matches(" {4}( {4})?\\}");
            CHECK.holds("method from line " + (opened + 1) + " is long", !closes || opened == 0 || i - opened < 60
                || lines[opened].contains("class"));
            opened = closes ? 0 : opened;
        }
    }
}
