import java.io.File;
import java.io.IOException;
import java.lang.reflect.Constructor;
import java.lang.reflect.Executable;
import java.lang.reflect.Field;
import java.lang.reflect.Method;
import java.lang.reflect.Modifier;
import java.net.URISyntaxException;
import java.util.Arrays;
import java.util.List;
import java.util.Set;
import java.util.TreeSet;
import java.util.stream.Collectors;

/** The class has the face of the document's code block and, by rule 1 of LANGUAGE.md, nothing else that is open. */
public final class FaceTest {
    private static final Due DUE = new Due("FaceTest");
    private static final Class<?> CLASS = SmellHowLong.class;

    public static void main(String[] args) throws IOException, URISyntaxException {
        List<String> face = Document.face();
        // Fewer would be a block that was not found: one constructor and promises 2 to 29.
        DUE.is("members that the document asks for", face.size(), 29);
        DUE.is("the class that the document asks for: " + Document.head(),
                Document.head().equals(Modifier.toString(CLASS.getModifiers()) + " class " + CLASS.getName()) ? 1 : 0, 1);
        sameMembers(new TreeSet<>(face), openMembers());
        noSuperclassOrInterface();
        closedNames();
        nestedClasses();
        nothingElseInTheFile();
        DUE.end();
    }

    private static void holds(String rule, boolean held) {
        DUE.is(rule, held ? 1 : 0, 1);
    }

    private static void sameMembers(Set<String> asked, Set<String> open) {
        for (String member : asked) {
            holds(member + " is asked for", open.contains(member));
        }
        for (String member : open) {
            holds(member + " is open", asked.contains(member));
        }
    }

    private static String told(Executable e, String typeAndName) {
        String types = Arrays.stream(e.getParameterTypes()).map(Class::getName).collect(Collectors.joining(", "));
        String thrown = Arrays.stream(e.getExceptionTypes()).map(t -> " throws " + t.getName())
                .collect(Collectors.joining());
        return Modifier.toString(e.getModifiers()) + " " + typeAndName + "(" + types + ")" + thrown;
    }

    /** All members that are not private, as the document's code block would write them. */
    private static Set<String> openMembers() {
        Set<String> open = new TreeSet<>();
        for (Constructor<?> c : CLASS.getDeclaredConstructors()) {
            if (!Modifier.isPrivate(c.getModifiers())) {
                open.add(told(c, c.getName()));
            }
        }
        for (Method m : CLASS.getDeclaredMethods()) {
            if (!Modifier.isPrivate(m.getModifiers())) {
                open.add(told(m, m.getReturnType().getName() + " " + m.getName()));
            }
        }
        for (Field f : CLASS.getDeclaredFields()) {
            if (!Modifier.isPrivate(f.getModifiers())) {
                open.add(Modifier.toString(f.getModifiers()) + " " + f.getType().getName() + " " + f.getName());
            }
        }
        return open;
    }

    private static void noSuperclassOrInterface() {
        holds("no class above it", CLASS.getSuperclass() == Object.class);
        DUE.is("interfaces", CLASS.getInterfaces().length, 0);
        DUE.is("type parameters", CLASS.getTypeParameters().length, 0);
        holds("no package", CLASS.getPackageName().isEmpty());
    }

    /** "No private method bears the name of a public one." */
    private static void closedNames() {
        Set<String> open = new TreeSet<>();
        Set<String> closed = new TreeSet<>();
        for (Method m : CLASS.getDeclaredMethods()) {
            (Modifier.isPrivate(m.getModifiers()) ? closed : open).add(m.getName());
        }
        for (Class<?> inside : CLASS.getDeclaredClasses()) {
            for (Method m : inside.getDeclaredMethods()) {
                closed.add(m.getName());
            }
        }
        closed.retainAll(open);
        holds("other methods with a public one's name: " + closed, closed.isEmpty());
    }

    private static void nestedClasses() {
        for (Class<?> inside : CLASS.getDeclaredClasses()) {
            holds(inside + " is static", Modifier.isStatic(inside.getModifiers()));
            holds(inside + " is private or package-visible",
                    !Modifier.isPublic(inside.getModifiers()) && !Modifier.isProtected(inside.getModifiers()));
        }
    }

    /** Compiled by itself, the file gives the class and its named classes: none beside it, none without a name. */
    private static void nothingElseInTheFile() throws URISyntaxException {
        Set<String> wanted = new TreeSet<>(Set.of(CLASS.getName() + ".class"));
        for (Class<?> inside : CLASS.getDeclaredClasses()) {
            wanted.add(inside.getName() + ".class");
        }
        File compiled = new File(CLASS.getProtectionDomain().getCodeSource().getLocation().toURI());
        String[] files = compiled.list();
        Set<String> got = new TreeSet<>(Arrays.asList(files == null ? new String[0] : files));
        holds("compiled by itself: " + got + ", due is " + wanted, got.equals(wanted));
    }
}
