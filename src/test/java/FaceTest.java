import java.io.IOException;
import java.lang.reflect.Constructor;
import java.lang.reflect.Field;
import java.lang.reflect.Method;
import java.lang.reflect.Modifier;
import java.nio.file.Files;
import java.nio.file.Path;
import java.util.List;
import java.util.Map;
import java.util.TreeMap;
import java.util.TreeSet;
import java.util.regex.Matcher;
import java.util.regex.Pattern;

/** The public face, and nothing beside it. */
public final class FaceTest {
    private static final String[] METHODS = {
        "addNode/1", "addLink/4", "setLink/3", "setGrant/3", "addTunnel/3", "setTunnel/3", "append/1", "clearText/0",
        "load/0", "step/1", "settle/0", "roundsToQuiet/0", "undo/0", "count/1", "node/2", "link/2", "tunnel/2",
        "grant/3", "known/3", "distance/3", "next/4", "send/2", "way/1", "outcomes/1", "ideal/2", "worth/2"
    };

    public static void main(String[] args) throws IOException, ReflectiveOperationException {
        Check check = new Check("FaceTest");
        Class<?> type = PrivateLinkRouting.class;
        check.due("public final", type.getModifiers() & (Modifier.PUBLIC | Modifier.FINAL),
            Modifier.PUBLIC | Modifier.FINAL);
        checkConstants(check, type);
        checkMethods(check, type);
        int constructors = 0;
        for (Constructor<?> constructor : type.getDeclaredConstructors()) {
            constructors++;
            check.due("public constructor", constructor.getModifiers(), Modifier.PUBLIC);
            check.due("its parameters", constructor.getParameterCount(), 0);
        }
        check.due("constructors", constructors, 1);
        for (Class<?> inside : type.getDeclaredClasses()) {
            check.due(inside.getName() + " is static", Modifier.isStatic(inside.getModifiers()) ? 1 : 0, 1);
            check.due(inside.getName() + " is public", Modifier.isPublic(inside.getModifiers()) ? 1 : 0, 0);
        }
        checkWords(check, Files.readString(Path.of("../shared/DOC.md")));
        check.end();
    }

    /** The document lists the face, and heads each promise with a signature; the source has the same words. */
    private static void checkWords(Check check, String document) throws IOException {
        String source = Files.readString(Path.of("src/main/java/PrivateLinkRouting.java"));
        List<String> lines = source.lines().map(String::trim).filter(line -> line.startsWith("public ")).toList();
        Matcher face = Pattern.compile("```java\n(.*?)```", Pattern.DOTALL).matcher(document);
        check.due("the document has a face", face.find() ? 1 : 0, 1);
        List<String> due = face.group(1).lines().map(String::trim).filter(line -> !line.equals("}"))
            .map(line -> line.replaceFirst("\\);$", ") {")).toList();
        check.due("public lines", lines.size(), due.size());
        for (int i = 0; i < due.size() && i < lines.size(); i++) {
            boolean isDue = lines.get(i).equals(due.get(i));
            check.due("'" + lines.get(i) + "' where due is '" + due.get(i) + "'", isDue ? 1 : 0, 1);
        }
        Matcher promise = Pattern.compile("## Promise (\\d+): .*\n\n`(.*)`\n").matcher(document);
        int promises = 0;
        while (promise.find()) {
            promises++;
            check.due("number of the promise of " + promise.group(2), Integer.parseInt(promise.group(1)), promises);
            check.due(promise.group(2), due.contains("public " + promise.group(2) + " {") ? 1 : 0, 1);
        }
        check.due("promises", promises, METHODS.length + 1);
    }

    private static void checkConstants(Check check, Class<?> type) throws ReflectiveOperationException {
        Map<String, Integer> constants = new TreeMap<>();
        constants.put("INVALID_ARGUMENT", -1);
        constants.put("ILLEGAL_STATE", -2);
        constants.put("CAPACITY_EXCEEDED", -3);
        constants.put("NONE", -9);
        for (Field field : type.getDeclaredFields()) {
            if (constants.containsKey(field.getName())) {
                check.due(field.getName(), field.getInt(null), constants.remove(field.getName()));
                check.due(field.getName() + " is a public constant", field.getModifiers(),
                    Modifier.PUBLIC | Modifier.STATIC | Modifier.FINAL);
            } else {
                check.due(field.getName() + " is private", field.getModifiers() & Modifier.PRIVATE, Modifier.PRIVATE);
            }
        }
        check.due("constants that are missing", constants.size(), 0);
    }

    private static void checkMethods(Check check, Class<?> type) {
        TreeSet<String> missing = new TreeSet<>(List.of(METHODS));
        TreeSet<String> names = new TreeSet<>();
        missing.forEach(method -> names.add(method.substring(0, method.indexOf('/'))));
        for (Method method : type.getDeclaredMethods()) {
            String key = method.getName() + "/" + method.getParameterCount();
            boolean isPrivate = Modifier.isPrivate(method.getModifiers());
            boolean isFace = missing.remove(key);
            check.due(key + " is of the face or private", isFace || isPrivate ? 1 : 0, 1);
            if (isFace) {
                check.due(key + " is public", method.getModifiers(), Modifier.PUBLIC);
                check.due(key + " returns an int", method.getReturnType() == int.class ? 1 : 0, 1);
                for (Class<?> parameter : method.getParameterTypes()) {
                    check.due(key + " takes ints", parameter == int.class ? 1 : 0, 1);
                }
            } else {
                check.due(key + " bears a name of the face", names.contains(method.getName()) ? 1 : 0, 0);
            }
        }
        check.due("methods that are missing: " + missing, missing.size(), 0);
    }
}
