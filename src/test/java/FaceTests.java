import java.io.IOException;
import java.lang.reflect.Constructor;
import java.lang.reflect.Field;
import java.lang.reflect.Method;
import java.lang.reflect.Modifier;
import java.nio.file.Files;
import java.nio.file.Path;
import java.util.ArrayList;
import java.util.Arrays;
import java.util.HashSet;
import java.util.List;
import java.util.Set;
import java.util.TreeSet;
import java.util.regex.Matcher;
import java.util.regex.Pattern;
import java.util.stream.Collectors;

/** The face of the document, and those rules of the language that are easily seen. */
final class FaceTests {
    private static final int MOST_LINES = 60, MOST_CLASSES = 12, MOST_FIELDS = 20, MOST_PARAMETERS = 7;

    private FaceTests() {
    }

    static void all(String path, DocumentedFace face) throws IOException, IllegalAccessException {
        theFaceIsReadAsItIsWritten(face);
        methodsAreThoseOfTheDocument(face);
        constantsAreThoseOfTheDocument(face);
        nothingElseIsSeen();
        classesInsideAreSmall();
        String source = Files.readString(Path.of(path));
        headingsStandAheadOfTheirCalls(source, face);
        String text = withoutComments(source);
        theClassIsAsTheDocumentSays(source, text);
        sourceKeepsToTheLanguage(text);
        methodsAreShort(text);
    }

    /** So that no other test holds because nothing was found in the document. */
    private static void theFaceIsReadAsItIsWritten(DocumentedFace face) {
        Tally.check(face.constants.size() == 13, "the constants were read as " + face.constants);
        Tally.check(face.calls.size() == 31, "the calls were read as " + face.calls);
        Tally.check(face.headings.size() == 6, "the headings were read as " + face.headings);
        List<String> all = face.calls.stream().map(DocumentedFace.Call::name).toList();
        List<String> underHeadings = face.headings.values().stream().flatMap(List::stream).toList();
        Tally.check(all.equals(underHeadings), "the headings were read as " + face.headings);
    }

    private static void theClassIsAsTheDocumentSays(String source, String text) {
        Class<?> c = Takinghall.class;
        Tally.check(source.startsWith("/** A hall that takes land for what all need. */\npublic final class Takinghall {"),
                "the class begins otherwise");
        Tally.check(text.split("\\bclass Takinghall\\b", -1).length == 2, "there are several classes Takinghall");
        Tally.check(Modifier.isPublic(c.getModifiers()) && Modifier.isFinal(c.getModifiers()), "it is not public and final");
        Tally.check(c.getPackageName().isEmpty(), "it has a package");
        Tally.check(c.getSuperclass() == Object.class && c.getInterfaces().length == 0 && c.getTypeParameters().length == 0,
                "it is more than the document says");
    }

    private static String signature(Method method) {
        String parameters = Arrays.stream(method.getParameterTypes()).map(Class::getSimpleName).collect(Collectors.joining(","));
        String exceptions = Arrays.stream(method.getExceptionTypes()).map(Class::getSimpleName).collect(Collectors.joining(","));
        return method.getReturnType().getSimpleName() + " " + method.getName() + "(" + parameters + ")"
                + (exceptions.isEmpty() ? "" : " throws " + exceptions);
    }

    private static void methodsAreThoseOfTheDocument(DocumentedFace face) {
        Set<String> got = new TreeSet<>();
        for (Method method : Takinghall.class.getDeclaredMethods()) {
            if (Modifier.isPublic(method.getModifiers())) {
                Tally.check(!Modifier.isStatic(method.getModifiers()), method + " is static");
                got.add(signature(method));
            }
        }
        Set<String> due = new TreeSet<>();
        face.calls.forEach(call -> due.add(call.signature()));
        Tally.check(got.equals(due), "the face is " + got + ", due is " + due);
        Constructor<?>[] constructors = Takinghall.class.getDeclaredConstructors();
        Tally.check(constructors.length == 1 && Modifier.isPublic(constructors[0].getModifiers())
                && constructors[0].getParameterCount() == 0 && constructors[0].getExceptionTypes().length == 0, "the constructor is not that of the document");
    }

    private static void constantsAreThoseOfTheDocument(DocumentedFace face) throws IllegalAccessException {
        Set<String> got = new TreeSet<>();
        for (Field field : Takinghall.class.getDeclaredFields()) {
            if (Modifier.isPublic(field.getModifiers())) {
                boolean isConstant = Modifier.isStatic(field.getModifiers()) && Modifier.isFinal(field.getModifiers());
                Tally.check(isConstant && field.getType() == int.class, field + " is no constant of int");
                got.add(field.getName() + "=" + field.getInt(null));
            }
        }
        Tally.check(got.equals(face.constants), "the constants are " + got + ", due is " + face.constants);
    }

    private static void nothingElseIsSeen() {
        Set<String> publicNames = new HashSet<>();
        List<String> others = new ArrayList<>();
        for (Method method : Takinghall.class.getDeclaredMethods()) {
            if (Modifier.isPublic(method.getModifiers())) {
                publicNames.add(method.getName());
            } else {
                Tally.check(Modifier.isPrivate(method.getModifiers()), method + " is not private");
                others.add(method.getName());
            }
        }
        for (String name : others) {
            Tally.check(!publicNames.contains(name), "a private method is called " + name);
        }
        for (Field field : Takinghall.class.getDeclaredFields()) {
            boolean isSeen = !Modifier.isPrivate(field.getModifiers()) && !Modifier.isPublic(field.getModifiers());
            Tally.check(!isSeen, field + " is seen in the package");
            boolean isState = Modifier.isStatic(field.getModifiers()) && !Modifier.isFinal(field.getModifiers());
            Tally.check(!isState, field + " is static and not final");
        }
    }

    private static void classesInsideAreSmall() {
        Class<?>[] inside = Takinghall.class.getDeclaredClasses();
        Tally.check(inside.length < MOST_CLASSES, "there are " + inside.length + " classes inside");
        List<Class<?>> classes = new ArrayList<>(List.of(inside));
        for (Class<?> c : inside) {
            Tally.check(Modifier.isStatic(c.getModifiers()) && Modifier.isPrivate(c.getModifiers()), c + " is seen");
        }
        classes.add(Takinghall.class);
        for (Class<?> c : classes) {
            long fields = Arrays.stream(c.getDeclaredFields()).filter(f -> !Modifier.isStatic(f.getModifiers())).count();
            Tally.check(fields <= MOST_FIELDS, c + " has " + fields + " fields");
            for (Method method : c.getDeclaredMethods()) {
                Tally.check(method.getParameterCount() <= MOST_PARAMETERS, method + " takes too much");
            }
            for (Constructor<?> constructor : c.getDeclaredConstructors()) {
                Tally.check(constructor.getParameterCount() <= MOST_PARAMETERS, constructor + " takes too much");
            }
        }
    }

    /** Under each heading stand the calls that the document tells there, in its order, and no others. */
    private static void headingsStandAheadOfTheirCalls(String source, DocumentedFace face) {
        List<String> got = new ArrayList<>();
        Matcher matcher = Pattern.compile("// (---- .+)|    public \\w+ (\\w+)\\(").matcher(source);
        while (matcher.find()) {
            String heading = matcher.group(1);
            if (heading == null || face.headings.containsKey(heading)) {
                got.add(heading == null ? matcher.group(2) : heading);
            }
        }
        List<String> due = new ArrayList<>();
        face.headings.forEach((heading, calls) -> {
            due.add(heading);
            due.addAll(calls);
        });
        Tally.check(got.equals(due), "the calls stand as " + got + ", due is " + due);
    }

    private static String withoutComments(String source) {
        return source.replaceAll("(?s)/\\*.*?\\*/", "").replaceAll("//[^\n]*", "");
    }

    private static void sourceKeepsToTheLanguage(String text) {
        String[] ruledOut = {"\\bimport\\b", "\\bpackage\\b", "->", "::", "\\bcatch\\b", "\\btry\\b", "\\bfinally\\b",
            "\\bsynchronized\\b", "\\bassert\\b", "\\binstanceof\\b", "\\bstatic\\s*\\{", "\\bthis\\s*\\)", "\\bsuper\\b",
            "\\b(float|double)\\b", "\\bObject\\b", "\\bSystem\\b", "\\bThread\\b", "Exact\\b", "\\.(equals|hashCode|toString)\\b",
            "\\bvar\\b", "\\byield\\b", "\\bnew [A-Z]\\w*\\([^)]*\\)\\s*\\{"};
        for (String pattern : ruledOut) {
            Matcher matcher = Pattern.compile(pattern).matcher(text);
            Tally.check(!matcher.find(), "the source holds " + pattern);
        }
        String throwing = "throw new (IndexOutOfBounds|IllegalArgument|IllegalState)Exception\\(\"[ -~]+\"\\);";
        int all = text.split("\\bthrow\\b", -1).length;
        int right = text.split(throwing, -1).length;
        Tally.check(all == right, "a throw has another form");
    }

    private static void methodsAreShort(String text) {
        int lines = 0;
        for (String line : text.split("\n")) {
            lines = line.equals("    }") ? 0 : lines + 1;
            Tally.check(lines <= MOST_LINES, "a method is too long near: " + line);
        }
    }
}
