import java.io.IOException;
import java.lang.reflect.Constructor;
import java.lang.reflect.Field;
import java.lang.reflect.Method;
import java.lang.reflect.Modifier;
import java.util.ArrayList;
import java.util.Arrays;
import java.util.HashSet;
import java.util.List;
import java.util.Set;
import java.util.TreeSet;
import java.util.regex.Matcher;
import java.util.regex.Pattern;

/** The face is the document's, and nothing else can be seen from outside. */
final class FaceTest {
    private FaceTest() {
    }

    private static Set<String> facesOfTheDocument() throws IOException {
        Set<String> faces = new TreeSet<>();
        Pattern form = Pattern.compile("    public (\\w+) (\\w+)\\(([^)]*)\\)(?: throws ([^;]*))?;");
        Matcher matcher = form.matcher(SentencesTest.document());
        while (matcher.find()) {
            List<String> types = new ArrayList<>();
            for (String parameter : matcher.group(3).split(", ")) {
                types.add(parameter.split(" ")[0]);
            }
            String exceptions = matcher.group(4) == null ? "" : matcher.group(4);
            faces.add(matcher.group(1) + " " + matcher.group(2) + types + exceptions);
        }
        return faces;
    }

    private static String face(Method method) {
        List<String> types = new ArrayList<>();
        for (Class<?> type : method.getParameterTypes()) {
            types.add(type.getSimpleName());
        }
        if (types.isEmpty()) {
            types.add("");
        }
        List<String> exceptions = new ArrayList<>();
        for (Class<?> type : method.getExceptionTypes()) {
            exceptions.add(type.getSimpleName());
        }
        return method.getReturnType().getSimpleName() + " " + method.getName() + types + String.join(", ", exceptions);
    }

    static void wholeFace() throws IOException {
        Set<String> faces = new TreeSet<>();
        for (Method method : FilterWaterworks.class.getDeclaredMethods()) {
            if (!Modifier.isPrivate(method.getModifiers())) {
                faces.add(face(method));
                Check.due(method + " is public", true, Modifier.isPublic(method.getModifiers()));
            }
        }
        Check.due("methods", facesOfTheDocument(), faces);
        Check.due("final", true, Modifier.isFinal(FilterWaterworks.class.getModifiers()));
        Constructor<?>[] constructors = FilterWaterworks.class.getDeclaredConstructors();
        Check.due("constructors", 1, constructors.length);
        Check.due("without parameters", 0, constructors[0].getParameterCount());
    }

    static void wholePrivateMembers() {
        Set<String> names = new HashSet<>();
        for (Method method : FilterWaterworks.class.getMethods()) {
            names.add(method.getName());
        }
        List<Class<?>> classes = new ArrayList<>(Arrays.asList(FilterWaterworks.class.getDeclaredClasses()));
        for (Class<?> inside : classes) {
            Check.due(inside + " is static", true, Modifier.isStatic(inside.getModifiers()));
            Check.due(inside + " is private", true, Modifier.isPrivate(inside.getModifiers()));
        }
        classes.add(FilterWaterworks.class);
        for (Class<?> one : classes) {
            for (Method method : one.getDeclaredMethods()) {
                boolean isFace = Modifier.isPublic(method.getModifiers());
                Check.due(method + " bears a name of its own", true, isFace || !names.contains(method.getName()));
            }
            for (Field field : one.getDeclaredFields()) {
                int modifiers = field.getModifiers();
                boolean isSafe = !Modifier.isStatic(modifiers) || Modifier.isFinal(modifiers);
                Check.due(field + " is no changing static state", true, isSafe);
            }
        }
        for (Field field : FilterWaterworks.class.getDeclaredFields()) {
            Check.due(field + " is private", true, Modifier.isPrivate(field.getModifiers()));
        }
    }
}
