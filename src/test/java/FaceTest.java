import java.lang.reflect.Constructor;
import java.lang.reflect.Field;
import java.lang.reflect.Method;
import java.lang.reflect.Modifier;
import java.util.ArrayList;
import java.util.Arrays;
import java.util.Collections;
import java.util.HashSet;
import java.util.List;
import java.util.Set;

/** The class shows the document's face, and nothing else (LANGUAGE.md, rules 1 and 5). */
public final class FaceTest {
    private static final String[] FACE = {
        "int told(int) IllegalArgumentException",
        "void bound(int) IllegalArgumentException",
        "int group(boolean,boolean) UnsupportedOperationException",
        "int end(int,int) IllegalStateException,IllegalArgumentException",
        "int mask(int,boolean) IllegalStateException,IllegalArgumentException",
        "void unmask() ",
        "void colour(int,int) IllegalArgumentException,ArrayIndexOutOfBoundsException",
        "void stays(int,boolean) ArrayIndexOutOfBoundsException",
        "void cover(int,int,int) IllegalArgumentException,ArrayIndexOutOfBoundsException",
        "void fill(int,int,int,int,int) IllegalArgumentException",
        "int mark(int,int,int) IllegalArgumentException",
        "int point(int,int,int) ArrayIndexOutOfBoundsException",
        "int alpha(int,int,int) ArrayIndexOutOfBoundsException,IllegalArgumentException",
        "int paper(int,int,int) ArrayIndexOutOfBoundsException",
        "int separable(int,int,int) IllegalArgumentException",
        "int blend(int,int,int) IllegalArgumentException",
    };

    public static void main(String[] args) {
        Class<?> face = BlendRows.class;
        Check.due("public and final", face.getModifiers(), Modifier.PUBLIC | Modifier.FINAL);
        Check.due("public methods", publicMethods(face), sorted(Arrays.asList(FACE)));
        Check.due("constructors", face.getDeclaredConstructors().length, 1);
        Constructor<?> made = face.getDeclaredConstructors()[0];
        Check.due("constructor", names(made.getParameterTypes()) + Modifier.toString(made.getModifiers()), "int,intpublic");
        lookAtPrivateNames(face, publicNames(face));
        lookAtFields(face);
        for (Class<?> inside : face.getDeclaredClasses()) {
            Check.due(inside + " is static", Modifier.isStatic(inside.getModifiers()), true);
            lookAtPrivateNames(inside, publicNames(face));
            lookAtStaticFields(inside);
        }
        Check.end();
    }

    private static List<String> publicMethods(Class<?> face) {
        List<String> found = new ArrayList<>();
        for (Method m : face.getDeclaredMethods()) {
            if (!Modifier.isPrivate(m.getModifiers())) {
                found.add(m.getReturnType().getSimpleName() + " " + m.getName()
                        + "(" + names(m.getParameterTypes()) + ") " + names(m.getExceptionTypes()));
            }
        }
        return sorted(found);
    }

    private static Set<String> publicNames(Class<?> face) {
        Set<String> shown = new HashSet<>();
        for (Method m : face.getDeclaredMethods()) {
            if (Modifier.isPublic(m.getModifiers())) {
                shown.add(m.getName());
            }
        }
        return shown;
    }

    private static void lookAtPrivateNames(Class<?> of, Set<String> shown) {
        for (Method m : of.getDeclaredMethods()) {
            if (!Modifier.isPublic(m.getModifiers())) {
                Check.due(m.getName() + " has a public method's name", shown.contains(m.getName()), false);
            }
        }
    }

    private static void lookAtFields(Class<?> face) {
        for (Field f : face.getDeclaredFields()) {
            Check.due(f.getName() + " is private", Modifier.isPrivate(f.getModifiers()), true);
        }
        lookAtStaticFields(face);
    }

    private static void lookAtStaticFields(Class<?> of) {
        for (Field f : of.getDeclaredFields()) {
            if (Modifier.isStatic(f.getModifiers())) {
                Check.due(f.getName() + " is final", Modifier.isFinal(f.getModifiers()), true);
            }
        }
    }

    private static String names(Class<?>[] types) {
        StringBuilder all = new StringBuilder();
        for (Class<?> type : types) {
            all.append(all.length() == 0 ? "" : ",").append(type.getSimpleName());
        }
        return all.toString();
    }

    private static List<String> sorted(List<String> texts) {
        List<String> copy = new ArrayList<>(texts);
        Collections.sort(copy);
        return copy;
    }
}
