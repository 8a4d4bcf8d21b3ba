import java.io.IOException;
import java.lang.reflect.Constructor;
import java.lang.reflect.Field;
import java.lang.reflect.Method;
import java.lang.reflect.Modifier;
import java.nio.file.Files;
import java.nio.file.Path;
import java.util.ArrayList;
import java.util.Arrays;
import java.util.HashSet;
import java.util.List;
import java.util.Set;
import java.util.TreeSet;
import java.util.regex.Matcher;
import java.util.regex.Pattern;
import java.util.stream.Collectors;

/** The face of the document, and those rules of the language that are easily seen. */
final class FaceTests {
    private static final String INDEX = "IndexOutOfBoundsException";
    private static final String ARGUMENT = "IllegalArgumentException";
    private static final String STATE = "IllegalStateException";
    private static final String[] FACE = {
        "int plot(int,int,int)" + thrown(INDEX, ARGUMENT, STATE),
        "int price(int,int)" + thrown(ARGUMENT),
        "int worth(int,int)" + thrown(INDEX, ARGUMENT),
        "int market(int)" + thrown(INDEX),
        "int plotOf(int,int)" + thrown(INDEX, ARGUMENT),
        "int own(int,int,int)" + thrown(INDEX, ARGUMENT, STATE),
        "int lease(int,int,int,int)" + thrown(INDEX, ARGUMENT, STATE),
        "int charge(int,int,int)" + thrown(INDEX, ARGUMENT, STATE),
        "long interestOf(int,int)" + thrown(INDEX, ARGUMENT),
        "int scheme(int,int)" + thrown(ARGUMENT, STATE),
        "int draw(int,int,int)" + thrown(INDEX, ARGUMENT, STATE),
        "int notice(int)" + thrown(INDEX, STATE),
        "int object(int)" + thrown(INDEX, STATE),
        "int hear(int,boolean)" + thrown(INDEX, STATE),
        "int confirm(int)" + thrown(INDEX, STATE),
        "int whoStops(int)" + thrown(INDEX),
        "int drop(int)" + thrown(INDEX, STATE),
        "int schemeOf(int,int)" + thrown(INDEX, ARGUMENT),
        "int enter(int)" + thrown(INDEX, STATE),
        "int blight(int)" + thrown(INDEX, ARGUMENT, STATE),
        "int works(int)" + thrown(INDEX, STATE),
        "long sumAnew(int)" + thrown(INDEX),
        "long owed(int)" + thrown(INDEX),
        "long advance(int)" + thrown(INDEX, STATE),
        "long settle(int)" + thrown(INDEX, STATE),
        "int refuse(int)" + thrown(INDEX, STATE),
        "int accept(int)" + thrown(INDEX, STATE),
        "int pass(int)" + thrown(ARGUMENT, STATE),
        "int today()",
        "long total(int)" + thrown(ARGUMENT),
        "int creditors(int)" + thrown(INDEX),
    };
    private static final String[] CONSTANTS = {
        "NONE=-1", "FIELD=0", "HOME=1", "SHOP=2", "FREE=0", "TAKEN=1", "BACK=2", "OWNER=0", "LEASE=1", "CHARGE=2",
        "DRAFT=0", "CONFIRMED=1", "DROPPED=2"};
    private static final String[] HEADINGS_AND_FIRST_CALLS = {
        "---- PLOTS", " plot(", " plotOf(", "---- INTERESTS", " own(", " interestOf(", "---- SCHEMES", " scheme(", " schemeOf(",
        "---- taking, paying", " enter(", " settle(", "---- OFFERED", " refuse(", " accept(", "---- days, sums", " pass(",
        " creditors("};
    private static final int MOST_LINES = 60, MOST_CLASSES = 12, MOST_FIELDS = 20, MOST_PARAMETERS = 7;

    private FaceTests() {
    }

    static void all(String source) throws IOException, IllegalAccessException {
        methodsAreThoseOfTheDocument();
        constantsAreThoseOfTheDocument();
        nothingElseIsSeen();
        classesInsideAreSmall();
        headingsStandAheadOfTheirCalls(Files.readString(Path.of(source)));
        String text = withoutComments(Files.readString(Path.of(source)));
        sourceKeepsToTheLanguage(text);
        methodsAreShort(text);
    }

    private static String thrown(String... names) {
        return " throws " + String.join(",", names);
    }

    private static String signature(Method method) {
        String parameters = Arrays.stream(method.getParameterTypes()).map(Class::getSimpleName).collect(Collectors.joining(","));
        String exceptions = Arrays.stream(method.getExceptionTypes()).map(Class::getSimpleName).collect(Collectors.joining(","));
        return method.getReturnType().getSimpleName() + " " + method.getName() + "(" + parameters + ")"
                + (exceptions.isEmpty() ? "" : " throws " + exceptions);
    }

    private static void methodsAreThoseOfTheDocument() {
        Set<String> got = new TreeSet<>();
        for (Method method : Takinghall.class.getDeclaredMethods()) {
            if (Modifier.isPublic(method.getModifiers())) {
                Tally.check(!Modifier.isStatic(method.getModifiers()), method + " is static");
                got.add(signature(method));
            }
        }
        Set<String> due = new TreeSet<>(List.of(FACE));
        Tally.check(got.equals(due), "the face is " + got);
        Tally.check(Modifier.isFinal(Takinghall.class.getModifiers()), "the class is not final");
        Constructor<?>[] constructors = Takinghall.class.getDeclaredConstructors();
        Tally.check(constructors.length == 1 && Modifier.isPublic(constructors[0].getModifiers())
                && constructors[0].getParameterCount() == 0, "the constructor is not that of the document");
    }

    private static void constantsAreThoseOfTheDocument() throws IllegalAccessException {
        Set<String> got = new TreeSet<>();
        for (Field field : Takinghall.class.getDeclaredFields()) {
            if (Modifier.isPublic(field.getModifiers())) {
                Tally.check(Modifier.isStatic(field.getModifiers()) && Modifier.isFinal(field.getModifiers()), field + "");
                got.add(field.getName() + "=" + field.getInt(null));
            }
        }
        Tally.check(got.equals(new TreeSet<>(List.of(CONSTANTS))), "the constants are " + got);
    }

    private static void nothingElseIsSeen() {
        Set<String> publicNames = new HashSet<>();
        List<String> others = new ArrayList<>();
        for (Method method : Takinghall.class.getDeclaredMethods()) {
            if (Modifier.isPublic(method.getModifiers())) {
                publicNames.add(method.getName());
            } else {
                Tally.check(Modifier.isPrivate(method.getModifiers()), method + " is not private");
                others.add(method.getName());
            }
        }
        for (String name : others) {
            Tally.check(!publicNames.contains(name), "a private method is called " + name);
        }
        for (Field field : Takinghall.class.getDeclaredFields()) {
            boolean isSeen = !Modifier.isPrivate(field.getModifiers()) && !Modifier.isPublic(field.getModifiers());
            Tally.check(!isSeen, field + " is seen in the package");
            boolean isState = Modifier.isStatic(field.getModifiers()) && !Modifier.isFinal(field.getModifiers());
            Tally.check(!isState, field + " is static and not final");
        }
    }

    private static void classesInsideAreSmall() {
        Class<?>[] inside = Takinghall.class.getDeclaredClasses();
        Tally.check(inside.length < MOST_CLASSES, "there are " + inside.length + " classes inside");
        List<Class<?>> classes = new ArrayList<>(List.of(inside));
        for (Class<?> c : inside) {
            Tally.check(Modifier.isStatic(c.getModifiers()) && Modifier.isPrivate(c.getModifiers()), c + " is seen");
        }
        classes.add(Takinghall.class);
        for (Class<?> c : classes) {
            long fields = Arrays.stream(c.getDeclaredFields()).filter(f -> !Modifier.isStatic(f.getModifiers())).count();
            Tally.check(fields <= MOST_FIELDS, c + " has " + fields + " fields");
            for (Method method : c.getDeclaredMethods()) {
                Tally.check(method.getParameterCount() <= MOST_PARAMETERS, method + " takes too much");
            }
            for (Constructor<?> constructor : c.getDeclaredConstructors()) {
                Tally.check(constructor.getParameterCount() <= MOST_PARAMETERS, constructor + " takes too much");
            }
        }
    }

    private static void headingsStandAheadOfTheirCalls(String source) {
        int from = 0;
        for (String words : HEADINGS_AND_FIRST_CALLS) {
            int at = source.indexOf(words, from);
            Tally.check(at >= 0, "not in its place: " + words);
            from = Math.max(from, at);
        }
    }

    private static String withoutComments(String source) {
        return source.replaceAll("(?s)/\\*.*?\\*/", "").replaceAll("//[^\n]*", "");
    }

    private static void sourceKeepsToTheLanguage(String text) {
        String[] ruledOut = {"\\bimport\\b", "\\bpackage\\b", "->", "::", "\\bcatch\\b", "\\btry\\b", "\\bfinally\\b",
            "\\bsynchronized\\b", "\\bassert\\b", "\\binstanceof\\b", "\\bstatic\\s*\\{", "\\bthis\\s*\\)", "\\bsuper\\b",
            "\\b(float|double)\\b", "\\bObject\\b", "\\bSystem\\b", "\\bThread\\b", "Exact\\b", "\\.(equals|hashCode|toString)\\b",
            "\\bvar\\b", "\\byield\\b", "\\bnew [A-Z]\\w*\\([^)]*\\)\\s*\\{"};
        for (String pattern : ruledOut) {
            Matcher matcher = Pattern.compile(pattern).matcher(text);
            Tally.check(!matcher.find(), "the source holds " + pattern);
        }
        String throwing = "throw new (IndexOutOfBounds|IllegalArgument|IllegalState)Exception\\(\"[ -~]+\"\\);";
        int all = text.split("\\bthrow\\b", -1).length;
        int right = text.split(throwing, -1).length;
        Tally.check(all == right, "a throw has another form");
    }

    private static void methodsAreShort(String text) {
        int lines = 0;
        for (String line : text.split("\n")) {
            lines = line.equals("    }") ? 0 : lines + 1;
            Tally.check(lines <= MOST_LINES, "a method is too long near: " + line);
        }
    }
}
