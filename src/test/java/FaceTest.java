import java.lang.reflect.Constructor;
import java.lang.reflect.Field;
import java.lang.reflect.Method;
import java.lang.reflect.Modifier;
import java.util.Arrays;
import java.util.Set;
import java.util.TreeSet;

/** The public face: the document's members and no other that is not private. */
public final class FaceTest {
    private static final String[] METHODS = {
        "int trivial(int)", "int dihedral(int)", "int linear(int,int)", "int transpositions(int)",
        "int setProduct(int,int,int)", "int invert()", "int size()", "int product(int,int)",
        "int quotient(int,int)", "int violation(int)", "int reach(int)", "int tableComponents()",
        "int closure(int)", "int generators()", "int translationOrder(int)", "int translations()",
        "int innerGroup()", "int automorphisms()", "int newDiagram(int)", "int standard(int)",
        "int addCrossing(int,int,int,int)", "int removeCrossing(int)", "int kink(int,int)", "int poke(int,int)",
        "int arcs()", "int crossings()", "int crossing(int,int)", "int components()", "int writhe()",
        "int linking(int,int)", "int colourings()", "int colouringsWith(int,int)", "int colouringsAlike(int,int)",
        "int colouringsUsing(int)", "int colour(int,int)", "int type(int)", "int clearText()",
        "int syntaxError()", "int read()", "int undo()", "long digest()"};
    private static final String[] FIELDS = {
        "NO_SUCH=-1", "BAD_VALUE=-2", "NOT_POSSIBLE=-3", "LIMIT=-4", "BAD_TEXT=-5", "NONE=-6"};

    private static int wrong = 0;

    public static void main(String[] args) throws Exception {
        Class<?> face = KnotColours.class;
        same("class", Set.of("public final"), Set.of(Modifier.toString(face.getModifiers())));
        Set<String> methods = new TreeSet<>();
        Set<String> publicNames = new TreeSet<>();
        for (Method m : face.getDeclaredMethods()) {
            if (!Modifier.isPrivate(m.getModifiers())) {
                same("modifiers of " + m.getName(), Set.of("public"), Set.of(Modifier.toString(m.getModifiers())));
                methods.add(m.getReturnType() + " " + m.getName() + types(m.getParameterTypes()));
                publicNames.add(m.getName());
            }
        }
        same("methods", new TreeSet<>(Arrays.asList(METHODS)), methods);
        Set<String> fields = new TreeSet<>();
        for (Field f : face.getDeclaredFields()) {
            if (!Modifier.isPrivate(f.getModifiers())) {
                same("modifiers of " + f.getName(), Set.of("public static final int"),
                        Set.of(Modifier.toString(f.getModifiers()) + " " + f.getType()));
                fields.add(f.getName() + "=" + f.getInt(null));
            }
        }
        same("fields", new TreeSet<>(Arrays.asList(FIELDS)), fields);
        Set<String> constructors = new TreeSet<>();
        for (Constructor<?> c : face.getDeclaredConstructors()) {
            constructors.add(Modifier.toString(c.getModifiers()) + types(c.getParameterTypes()));
        }
        same("constructors", Set.of("public()"), constructors);
        privateNames(face, publicNames);
        for (Class<?> inside : face.getDeclaredClasses()) {
            same("class " + inside.getName() + " is static", Set.of(true),
                    Set.of(Modifier.isStatic(inside.getModifiers())));
            privateNames(inside, publicNames);
        }
        System.out.println(wrong == 0 ? "the face is as due" : wrong + " parts of the face are not as due");
        if (wrong != 0) {
            System.exit(1);
        }
    }

    private static String types(Class<?>[] types) {
        StringBuilder text = new StringBuilder("(");
        for (Class<?> type : types) {
            text.append(text.length() == 1 ? "" : ",").append(type.getName());
        }
        return text.append(")").toString();
    }

    private static void privateNames(Class<?> where, Set<String> publicNames) {
        for (Method m : where.getDeclaredMethods()) {
            boolean ofFace = where == KnotColours.class && Modifier.isPublic(m.getModifiers());
            if (!ofFace) {
                same(where.getName() + "." + m.getName() + " bears a public name", Set.of(false),
                        Set.of(publicNames.contains(m.getName())));
            }
        }
    }

    private static void same(String what, Set<?> want, Set<?> got) {
        if (!want.equals(got)) {
            wrong++;
            System.out.println(what + " is " + got + ", due is " + want);
        }
    }
}
