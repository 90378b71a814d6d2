import java.lang.reflect.Constructor;
import java.lang.reflect.Field;
import java.lang.reflect.Method;
import java.lang.reflect.Modifier;
import java.util.Set;
import java.util.TreeSet;

/** The public face: the document's members, and no others that are not private. */
public final class FaceTest {

    private static final String[] FACE = {
        "int count(int)", "int set(int)", "int feed(int,int,int,int,int,int)", "int text()", "int force(int)",
        "int asks(int,int,int,int)", "int good(int,int)", "int put(int,int,int)", "int part(int,int)",
        "int eater(int,int)", "int told(int,int)", "int lend(int,int,int)", "int shape(int,int)",
        "int mark(int,int,int,int)", "int bite(int,int,int)", "int best(int,int)", "int orderly(int)",
        "int duel(int,int,int,int)", "int fewest(int,int)", "int soonest(int,int)", "int hire(int,int)",
        "int whose(int,int)", "int kinds(int,int,int,int)", "int judge(int)", "int ends(int,int,int)",
        "int laws(int)", "int film(int,int)", "int drawn(int,int,int,int)", "long odds(int,int,int,int,int)",
        "int image()", "int back()", "int sheet(int,int,int)", "int cell(int,int,int)",
        "int copy(int,int,int,int,int)", "int eatersBy(int,int,int,int)", "int taken(int,int)",
    };

    public static void main(String[] args) {
        Due.is("NONE", BiteFirst.NONE, -1);
        Due.is("BAD", BiteFirst.BAD, -2);
        Due.is("STATE", BiteFirst.STATE, -3);
        Due.is("FULL", BiteFirst.FULL, -4);
        Due.is("NO", BiteFirst.NO, -4611686018427387904L);
        Due.isTrue("public and final", Modifier.isPublic(BiteFirst.class.getModifiers())
                && Modifier.isFinal(BiteFirst.class.getModifiers()));
        methods();
        fieldsAndConstructors();
        classesInside();
        Due.end("FaceTest");
    }

    private static void methods() {
        Set<String> want = new TreeSet<>(Set.of(FACE));
        Set<String> names = new TreeSet<>();
        Set<String> got = new TreeSet<>();
        for (Method m : BiteFirst.class.getDeclaredMethods()) {
            if (Modifier.isPublic(m.getModifiers())) {
                got.add(told(m));
                names.add(m.getName());
            }
        }
        for (String one : want) {
            Due.isTrue("there is " + one, got.contains(one));
        }
        for (String one : got) {
            Due.isTrue("the document has " + one, want.contains(one));
        }
        for (Method m : BiteFirst.class.getDeclaredMethods()) {
            if (!Modifier.isPublic(m.getModifiers())) {
                Due.isTrue("private " + m, Modifier.isPrivate(m.getModifiers()) || m.isSynthetic());
                Due.isTrue("a name of its own " + m, !names.contains(m.getName()));
            }
            Due.isTrue("at most seven parameters " + m, m.getParameterCount() <= 7);
        }
    }

    private static String told(Method m) {
        StringBuilder all = new StringBuilder(m.getReturnType().getName()).append(' ').append(m.getName()).append('(');
        for (Class<?> one : m.getParameterTypes()) {
            all.append(all.charAt(all.length() - 1) == '(' ? "" : ",").append(one.getName());
        }
        return all.append(')').toString();
    }

    private static void fieldsAndConstructors() {
        Set<String> constants = Set.of("NONE", "BAD", "STATE", "FULL", "NO");
        int fields = 0;
        for (Field f : BiteFirst.class.getDeclaredFields()) {
            boolean isPublic = constants.contains(f.getName());
            Due.isTrue("public or private " + f, isPublic ? Modifier.isPublic(f.getModifiers())
                    : Modifier.isPrivate(f.getModifiers()));
            if (Modifier.isStatic(f.getModifiers())) {
                Due.isTrue("final " + f, Modifier.isFinal(f.getModifiers()));
            } else {
                fields++;
            }
        }
        Due.isTrue("at most twenty fields", fields <= 20);
        Constructor<?>[] all = BiteFirst.class.getDeclaredConstructors();
        Due.is("one constructor", all.length, 1);
        Due.is("without parameters", all[0].getParameterCount(), 0);
        Due.isTrue("public", Modifier.isPublic(all[0].getModifiers()));
    }

    private static void classesInside() {
        Class<?>[] all = BiteFirst.class.getDeclaredClasses();
        Due.isTrue("at most twelve classes", all.length + 1 <= 12);
        for (Class<?> one : all) {
            Due.isTrue("static " + one, Modifier.isStatic(one.getModifiers()));
            Due.isTrue("not public " + one, !Modifier.isPublic(one.getModifiers())
                    && !Modifier.isProtected(one.getModifiers()));
            int fields = 0;
            for (Field f : one.getDeclaredFields()) {
                if (Modifier.isStatic(f.getModifiers())) {
                    Due.isTrue("final " + f, Modifier.isFinal(f.getModifiers()));
                } else {
                    fields++;
                }
            }
            Due.isTrue("at most twenty fields in " + one, fields <= 20);
            for (Method m : one.getDeclaredMethods()) {
                Due.isTrue("at most seven parameters " + m, m.getParameterCount() <= 7);
                Due.isTrue("no name of the face's " + m, !Set.of(FACE).toString().contains(" " + m.getName() + "("));
            }
        }
    }
}
