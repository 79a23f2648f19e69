import java.io.IOException;
import java.lang.reflect.Constructor;
import java.lang.reflect.Field;
import java.lang.reflect.Method;
import java.lang.reflect.Modifier;
import java.nio.file.Files;
import java.nio.file.Path;
import java.util.ArrayList;
import java.util.Collections;
import java.util.List;
import java.util.regex.Matcher;
import java.util.regex.Pattern;

/** The public face of the document, and those rules of ../shared/LANGUAGE.md that a look can tell. */
final class FormTest {
    private static final Check CHECK = new Check("FormTest");
    static final String[] METHODS = {"append 1", "bell 1", "bestOil 0", "clearText 0", "coming 2", "dial 2",
        "dismiss 1", "errorPosition 0", "face 2", "gear 2", "hire 2", "keeper 2", "keeperTime 0", "majority 0",
        "minutesTo 1", "oil 1", "pass 1", "reset 0", "restore 0", "save 0", "set 2", "setting 1", "spreadIn 1",
        "total 1", "undo 0", "work 0"};
    private static final String[] REFUSED = {"\\bthrows?\\b", "\\btry\\b", "\\bcatch\\b", "\\bfinally\\b",
        "\\bsynchronized\\b", "\\bassert\\b", "\\bimport\\b", "\\bpackage\\b", "->", "::", "\\w+Exact\\b",
        "\\bstatic\\s*\\{", "\\bSystem\\.(?!arraycopy)", "\\bequals\\b", "\\bhashCode\\b", "\\btoString\\b",
        "\\bObject\\b", "\\bThread\\b", "\\bMath\\.random\\b", "\\bvar\\b",
        "\\b(?:Integer|Long|Math)\\.[A-Z]"};

    public static void main(String[] args) throws IOException {
        constants();
        members();
        methods();
        privateNames();
        fields();
        source(Files.readString(Path.of(args.length > 0 ? args[0] : ".", "src/main/java/TowerFaces.java")));
        CHECK.end();
    }

    private static void constants() {
        CHECK.due("NO_SUCH", -1001, TowerFaces.NO_SUCH);
        CHECK.due("BAD_VALUE", -1002, TowerFaces.BAD_VALUE);
        CHECK.due("NOT_POSSIBLE", -1003, TowerFaces.NOT_POSSIBLE);
        CHECK.due("LIMIT", -1004, TowerFaces.LIMIT);
        CHECK.due("BAD_TEXT", -1005, TowerFaces.BAD_TEXT);
        CHECK.due("NONE", -1000, TowerFaces.NONE);
    }

    private static void members() {
        int type = TowerFaces.class.getModifiers();
        CHECK.holds("the class is public and final", Modifier.isPublic(type) && Modifier.isFinal(type));
        int constants = 0;
        for (Field field : TowerFaces.class.getDeclaredFields()) {
            if (Modifier.isPublic(field.getModifiers())) {
                constants++;
            } else {
                CHECK.holds("private: " + field.getName(), Modifier.isPrivate(field.getModifiers()));
            }
        }
        CHECK.due("public constants", 6, constants);
        Constructor<?>[] constructors = TowerFaces.class.getDeclaredConstructors();
        CHECK.due("constructors", 1, constructors.length);
        CHECK.due("parameters of the constructor", 0, constructors[0].getParameterCount());
        CHECK.holds("classes inside are few", TowerFaces.class.getDeclaredClasses().length < 12);
        for (Class<?> inside : TowerFaces.class.getDeclaredClasses()) {
            CHECK.holds("static: " + inside.getName(), Modifier.isStatic(inside.getModifiers()));
        }
    }

    private static void methods() {
        List<String> found = new ArrayList<>();
        for (Method method : TowerFaces.class.getDeclaredMethods()) {
            int kind = method.getModifiers();
            if (Modifier.isPublic(kind)) {
                found.add(method.getName() + " " + method.getParameterCount());
                CHECK.holds("int: " + method.getName(), method.getReturnType() == int.class);
                for (Class<?> argument : method.getParameterTypes()) {
                    CHECK.holds("int: argument of " + method.getName(), argument == int.class);
                }
            } else {
                CHECK.holds("private: " + method.getName(), Modifier.isPrivate(kind) || method.isSynthetic());
            }
        }
        Collections.sort(found);
        CHECK.holds("public methods " + found, found.equals(List.of(METHODS)));
    }

    private static void privateNames() {
        List<Class<?>> classes = new ArrayList<>(List.of(TowerFaces.class.getDeclaredClasses()));
        classes.add(TowerFaces.class);
        for (Class<?> type : classes) {
            for (Method method : type.getDeclaredMethods()) {
                boolean isFree = Modifier.isPublic(method.getModifiers()) || !isNameOfFace(method.getName());
                CHECK.holds("name of its own: " + method, isFree);
                CHECK.holds("at most seven parameters: " + method, method.getParameterCount() <= 7);
            }
        }
    }

    private static boolean isNameOfFace(String name) {
        for (String method : METHODS) {
            if (method.startsWith(name + " ")) {
                return true;
            }
        }
        return false;
    }

    /** Static fields are constants, and no class has more than some twenty others. */
    private static void fields() {
        List<Class<?>> kinds = List.of(int.class, long.class, boolean.class, char.class, String.class, int[].class,
            long[].class, char[].class, byte[].class);
        List<Class<?>> classes = new ArrayList<>(List.of(TowerFaces.class.getDeclaredClasses()));
        classes.add(TowerFaces.class);
        for (Class<?> type : classes) {
            int others = 0;
            for (Field field : type.getDeclaredFields()) {
                if (Modifier.isStatic(field.getModifiers())) {
                    CHECK.holds("final: " + field, Modifier.isFinal(field.getModifiers()));
                    CHECK.holds("a constant: " + field, kinds.contains(field.getType()));
                } else {
                    others++;
                }
            }
            CHECK.holds("at most twenty fields: " + type.getName(), others <= 20);
        }
    }

    private static void source(String text) {
        String code = text.replaceAll("(?s)/\\*.*?\\*/", "").replaceAll("//[^\n]*", "");
        for (String refused : REFUSED) {
            Matcher matcher = Pattern.compile(refused).matcher(code);
            CHECK.holds("nowhere in the program: " + refused, !matcher.find());
        }
    }
}
