import java.io.IOException;
import java.lang.reflect.Constructor;
import java.lang.reflect.Field;
import java.lang.reflect.Method;
import java.lang.reflect.Modifier;
import java.nio.file.Files;
import java.nio.file.Path;
import java.util.ArrayList;
import java.util.List;
import java.util.Set;
import java.util.TreeSet;
import java.util.regex.Matcher;
import java.util.regex.Pattern;

/** The public face: just what the document names, and what LANGUAGE.md's rules 1, 5 and 11 say of the class itself. */
final class FaceTest {
    private static final String[] METHODS = {"feed 5", "fair 1", "fault 0", "count 1", "one 2", "needle 2", "saying 2",
        "shows 2", "last 2", "points 2", "side 2", "accused 1", "tell 3", "back 0", "rust 2", "carry 3", "undo 0", "clash 0",
        "just 3", "apart 2", "alibi 3", "plan 3", "see 3", "forget 0", "planted 0", "suspects 1", "spots 2", "saucer 3",
        "game 5", "years 3", "shown 2", "named 2", "butFor 1", "rusted 1", "ears 2", "hideouts 4", "pardon 2", "falsely 1",
        "truest 0", "first 1", "busiest 1", "image 0", "restore 0"};

    public static void main(String[] args) throws IOException {
        Due due = new Due("FaceTest");
        due.isTrue("the class is public and final", SaucerFair.class.getModifiers() == (Modifier.PUBLIC | Modifier.FINAL));
        due.is("NONE", SaucerFair.NONE, -1);
        methods(due);
        constructors(due);
        fields(due);
        classesInside(due);
        asTheDocument(due);
        due.end();
    }

    private static void methods(Due due) {
        Set<String> want = new TreeSet<>(List.of(METHODS));
        Set<String> got = new TreeSet<>();
        Set<String> names = new TreeSet<>();
        List<Method> hidden = new ArrayList<>();
        for (Method method : SaucerFair.class.getDeclaredMethods()) {
            if (Modifier.isPublic(method.getModifiers())) {
                got.add(method.getName() + " " + method.getParameterCount());
                names.add(method.getName());
                String name = method.getName();
                Class<?> answer = name.equals("restore") ? boolean.class
                    : name.equals("forget") || name.equals("image") ? void.class : int.class;
                due.isTrue("what " + name + " answers", method.getReturnType() == answer);
            } else {
                hidden.add(method);
            }
        }
        due.isTrue("public methods " + got + ", due are " + want, got.equals(want));
        for (Method method : hidden) {
            due.isTrue(method.getName() + " is private", Modifier.isPrivate(method.getModifiers()));
            due.isFalse(method.getName() + " bears a public name", names.contains(method.getName()));
        }
    }

    private static boolean isPublicName(String name) {
        for (String known : METHODS) {
            if (known.substring(0, known.indexOf(' ')).equals(name)) {
                return true;
            }
        }
        return false;
    }

    private static void constructors(Due due) {
        Constructor<?>[] all = SaucerFair.class.getDeclaredConstructors();
        due.is("constructors", all.length, 1);
        due.is("its parameters", all[0].getParameterCount(), 0);
    }

    private static void fields(Due due) {
        for (Field field : SaucerFair.class.getDeclaredFields()) {
            int is = field.getModifiers();
            due.isTrue(field.getName() + " is private", Modifier.isPrivate(is) || field.getName().equals("NONE"));
            due.isTrue(field.getName() + " is final if static", !Modifier.isStatic(is) || Modifier.isFinal(is));
        }
    }

    private static void classesInside(Due due) {
        Class<?>[] inside = SaucerFair.class.getDeclaredClasses();
        due.isTrue("at most twelve classes", inside.length + 1 <= 12);
        for (Class<?> one : inside) {
            due.isTrue(one + " is static", Modifier.isStatic(one.getModifiers()));
            due.isFalse(one + " is public", Modifier.isPublic(one.getModifiers()));
            int fields = 0;
            for (Field field : one.getDeclaredFields()) {
                if (Modifier.isStatic(field.getModifiers())) {
                    due.isTrue(one + " " + field.getName() + " is final", Modifier.isFinal(field.getModifiers()));
                } else {
                    fields++;
                }
            }
            due.isTrue(one + " has at most twenty fields", fields <= 20);
            for (Method method : one.getDeclaredMethods()) {
                due.isTrue(method + " takes at most seven", method.getParameterCount() <= 7);
                due.isFalse(method + " bears a public name", isPublicName(method.getName()));
            }
        }
    }

    /** The heads of the face, their parameters' names and what they throw too, in the document's words and order. */
    private static void asTheDocument(Due due) throws IOException {
        String document = Files.readString(Path.of("../shared/DOC.md"));
        int begin = document.indexOf("```java");
        List<String> want = heads(document.substring(begin, document.indexOf("```", begin + 7)), ';');
        List<String> got = heads(Files.readString(Path.of("src/main/java/SaucerFair.java")), '{');
        due.is("heads in the document", want.size(), METHODS.length + 1);
        due.is("heads in the class", got.size(), want.size());
        for (int i = 0; i < Math.min(got.size(), want.size()); i++) {
            due.isTrue("head " + got.get(i) + ", due is " + want.get(i), got.get(i).equals(want.get(i)));
        }
    }

    private static List<String> heads(String text, char end) {
        List<String> found = new ArrayList<>();
        Matcher heads = Pattern.compile("(?m)^    public [^={;]*\\([^{;]*\\" + end).matcher(text);
        while (heads.find()) {
            String head = heads.group();
            found.add(head.substring(0, head.length() - 1).strip().replaceAll("\\s+", " "));
        }
        return found;
    }
}
