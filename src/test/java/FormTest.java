import java.io.IOException;
import java.lang.reflect.Field;
import java.lang.reflect.Method;
import java.lang.reflect.Modifier;
import java.nio.charset.StandardCharsets;
import java.nio.file.Files;
import java.nio.file.Path;
import java.util.List;
import java.util.Set;
import java.util.TreeSet;
import java.util.regex.Matcher;
import java.util.regex.Pattern;

/** The form of the class, as far as it can be read off: its face, and the rules of LANGUAGE.md. */
final class FormTest {
    private static final List<String> FACE = List.of(
        "int feed(int, int, int, int, int)", "int end(int)", "int ship()", "int rule()", "int man(int, int)",
        "int order(int, int)", "int means(int, int)", "int meaning(int, int)", "int say(int, int)", "int hour()",
        "boolean wake(int, boolean)", "int sicken(int, int)", "int die(int)", "int teach(int)", "int turn(int)",
        "int undo()", "int run(int, int)", "int sayable()", "int shortest(int, int)", "int fewest(int, int)",
        "int watches(int, int)", "int boy(int)", "int lacks(int, int)", "int nearest(int, int, int)",
        "int done(int, boolean)", "int awake(int)", "int ask(int)", "int seed(int)",
        "int voyages(int, int, int, int)", "int count(int)", "int image(int)", "int back(int)");

    public static void main(String[] args) throws IOException {
        face();
        classes();
        String all = Files.readString(Path.of(args[0], "src/main/java/ChoirShip.java"), StandardCharsets.UTF_8);
        text(all);
        Kit.finish("FormTest");
    }

    private static void none(String what, boolean found) {
        Kit.due(what, found, false);
    }

    private static void face() {
        Set<String> there = new TreeSet<>();
        for (Method m : ChoirShip.class.getDeclaredMethods()) {
            if (!Modifier.isPrivate(m.getModifiers())) {
                StringBuilder sign = new StringBuilder(m.getReturnType().getSimpleName() + " " + m.getName() + "(");
                for (int i = 0; i < m.getParameterCount(); i++) {
                    sign.append(i == 0 ? "" : ", ").append(m.getParameterTypes()[i].getSimpleName());
                }
                there.add(sign.append(")").toString());
                Kit.due(m.getName() + " is public", Modifier.isPublic(m.getModifiers()), true);
                none(m.getName() + " is static", Modifier.isStatic(m.getModifiers()));
            }
        }
        Kit.due("the face: " + there, there.equals(new TreeSet<>(FACE)), true);
        Kit.due("final", Modifier.isFinal(ChoirShip.class.getModifiers()), true);
        Kit.due("constructors", ChoirShip.class.getDeclaredConstructors().length, 1);
        for (Field f : ChoirShip.class.getDeclaredFields()) {
            boolean open = f.getName().equals("NONE");
            Kit.due(f.getName() + " is private or NONE", Modifier.isPrivate(f.getModifiers()), !open);
        }
    }

    private static void classes() {
        Class<?>[] inside = ChoirShip.class.getDeclaredClasses();
        none("more than twelve classes", inside.length + 1 > 12);
        look(ChoirShip.class, false);
        for (Class<?> c : inside) {
            Kit.due(c + " is static", Modifier.isStatic(c.getModifiers()), true);
            Kit.due(c + " is private", Modifier.isPrivate(c.getModifiers()), true);
            look(c, true);
        }
    }

    private static void look(Class<?> c, boolean inside) {
        int fields = 0;
        for (Field f : c.getDeclaredFields()) {
            if (Modifier.isStatic(f.getModifiers())) {
                Kit.due(c + "." + f.getName() + " is final", Modifier.isFinal(f.getModifiers()), true);
            } else {
                fields++;
            }
        }
        none(c + " has more than twenty fields: " + fields, fields > 20);
        for (Method m : c.getDeclaredMethods()) {
            none(m + " takes more than seven", m.getParameterCount() > 7);
            boolean named = FACE.stream().anyMatch(f -> f.contains(" " + m.getName() + "("));
            none(m + " is named as one of the face", named && (inside || Modifier.isPrivate(m.getModifiers())));
            none(m + " is made by the compiler", m.isSynthetic());
        }
    }

    private static void text(String all) {
        Kit.due("signs 1 to 127 alone", all.chars().allMatch(c -> c > 0 && c < 127), true);
        none("a package", all.startsWith("package") || all.contains("\npackage"));
        String bare = all.replaceAll("(?s)/\\*.*?\\*/", "").replaceAll("//[^\n]*", "");
        none("texts joined by +", Pattern.compile("\"\\s*\\+|\\+\\s*\"").matcher(bare).find());
        bare = bare.replaceAll("\"[^\"\n]*\"", "\"\"").replaceAll("'.'", "' '");
        for (String word : List.of("throw", "throws", "try", "catch", "finally", "synchronized", "assert",
            "instanceof", "Exact", "double", "float", "volatile", "native", "var", "goto")) {
            none(word, Pattern.compile("\\b\\w*" + word + "\\b").matcher(bare).find());
        }
        none("a lambda", bare.contains("->"));
        none("a method reference", bare.contains("::"));
        none("a class without a name", Pattern.compile("new\\s+\\w+\\([^)]*\\)\\s*\\{").matcher(bare).find());
        none("a loop without a bound", Pattern.compile("while\\s*\\(true\\)|for\\s*\\([^;]*;\\s*;").matcher(bare).find());
        none("a static block", Pattern.compile("static\\s*\\{").matcher(bare).find());
        Matcher imports = Pattern.compile("import ([^;]*);").matcher(bare);
        while (imports.find()) {
            Kit.due(imports.group(1), Set.of("java.util.Arrays").contains(imports.group(1)), true);
        }
        Matcher library = Pattern.compile("\\b(System|Arrays|Math|Integer|Long|String|Character)\\.(\\w+)").matcher(bare);
        while (library.find()) {
            String used = library.group(1) + "." + library.group(2);
            Kit.due(used, Set.of("System.arraycopy", "Arrays.fill", "Math.min", "Math.max", "Integer.bitCount")
                .contains(used), true);
        }
        methodsAreShort(all);
    }

    /** A method's lines, from that which opens it to the brace that stands as far in. */
    private static void methodsAreShort(String all) {
        String[] lines = all.split("\n");
        Pattern opens = Pattern.compile("^( +)(?!.*\\b(class|if|for|while|switch|else|return)\\b).*\\) \\{$");
        int methods = 0;
        for (int i = 0; i < lines.length; i++) {
            Matcher m = opens.matcher(lines[i]);
            if (m.find()) {
                methods++;
                int to = i;
                while (!lines[to].equals(m.group(1) + "}")) {
                    to++;
                }
                none(lines[i] + " has " + (to - i + 1) + " lines", to - i + 1 > 60);
            }
        }
        none("the methods were not found", methods < 100);
    }
}
