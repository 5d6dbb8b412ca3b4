import java.lang.reflect.Constructor;
import java.lang.reflect.Field;
import java.lang.reflect.Method;
import java.lang.reflect.Modifier;
import java.util.Set;
import java.util.TreeSet;

/** 'The public face': every constant, constructor and method, and no other member that is not private. */
public final class FaceTest {
    private static final String[] METHODS = {
        "int feed(int a, int b, int c, int d, int e)", "int end(int n)", "int realm()", "int fault(int what)",
        "int hours(int from, int to)", "int way(int from, int to, int i)", "int order(int order, int what)",
        "int comes(int order)", "int rider(int order, int hour)", "int passes(int order, int i)",
        "int holds(int town, int thing, int hour)", "int whose(int town, int thing, int hour)",
        "int undone(int town, int hour)", "int changes(int town, int thing)", "int discord(int thing)",
        "int peace(int thing)", "int just(int thing)", "int seal(int n)", "int sends(int order, int hour)",
        "int latest(int order, int hour)", "int earliest(int order, int hour)", "int ways(int order, int hour)",
        "int best(int order, int hour, int what)",
        "int delay(int town, int thing, int says, int hour, int what)",
        "int queen(int from, int to, int thing, int says, int hour)", "int wish(int order)", "int rest()",
        "int rests(int n)", "int sent(int order, int n)", "int cross()", "int meets(int order, int other)",
        "int forged(int slot)", "int agree(int slot, int order)", "int when(int slot, int order, int i)",
        "int sure(int slot, int order, int town, int thing, int hour)", "int matters(int order)",
        "int year(int seed, int odds, int order)",
        "int years(int seed, int n, int odds, int town, int thing, int says, int hour)", "int count(int what)",
        "int image(int k)", "int restore(int k)", "int row(int slot, int width, int n)",
        "int write(int slot, int i, long v)", "int paste(int slot, int i, int to, int k, int n)"};

    public static void main(String[] args) throws Exception {
        Class<?> c = SlowOrder.class;
        Check.term("The public face", "public final class SlowOrder");
        Check.due("its kind", c.getModifiers(), Modifier.PUBLIC | Modifier.FINAL);
        Check.so("no package", c.getPackageName().isEmpty());
        Check.so("nothing above it", c.getSuperclass() == Object.class && c.getInterfaces().length == 0);
        Check.term("The public face", "public static final int NONE = -1;");
        Field none = c.getDeclaredField("NONE");
        Check.due("NONE is", none.getModifiers(), Modifier.PUBLIC | Modifier.STATIC | Modifier.FINAL);
        Check.so("an int", none.getType() == int.class);
        Check.due("NONE", SlowOrder.NONE, -1);
        Check.term("The public face", "public SlowOrder();");
        Constructor<?>[] makers = c.getDeclaredConstructors();
        Check.due("constructors", makers.length, 1);
        Check.due("public", makers[0].getModifiers(), Modifier.PUBLIC);
        Check.due("of no numbers", makers[0].getParameterCount(), 0);
        methods(c);
        noOther(c);
        Check.finish();
    }

    private static void methods(Class<?> c) {
        Set<String> face = new TreeSet<>();
        for (Method m : c.getDeclaredMethods()) {
            if (Modifier.isPublic(m.getModifiers())) {
                face.add(told(m));
                Check.due(m.getName() + " is public and no more", m.getModifiers(), Modifier.PUBLIC);
                Check.due(m.getName() + " throws", m.getExceptionTypes().length, 0);
            }
        }
        for (String method : METHODS) {
            Check.term("The public face", "public " + method + ";");
            Check.so("it is there", face.remove(method));
        }
        Check.term("The public face", "and no other");
        Check.so("no other: " + face, face.isEmpty());
        Check.due("methods", METHODS.length, 44);
    }

    private static String told(Method m) {
        StringBuilder s = new StringBuilder(m.getReturnType() + " " + m.getName() + "(");
        for (int i = 0; i < m.getParameterCount(); i++) {
            s.append(i == 0 ? "" : ", ").append(m.getParameters()[i].getType()).append(' ')
                .append(m.getParameters()[i].getName());
        }
        return s.append(")").toString();
    }

    private static void noOther(Class<?> c) {
        Set<String> names = new TreeSet<>();
        for (Method m : c.getDeclaredMethods()) {
            if (Modifier.isPublic(m.getModifiers())) {
                names.add(m.getName());
            }
        }
        for (Field f : c.getDeclaredFields()) {
            Check.so(f + " is private", f.getName().equals("NONE") || Modifier.isPrivate(f.getModifiers()));
        }
        noneIsNamedSo(c, names);
        for (Class<?> inside : c.getDeclaredClasses()) {
            Check.so(inside + " is static", Modifier.isStatic(inside.getModifiers()));
            Check.so(inside + " is not public", (inside.getModifiers() & (Modifier.PUBLIC | Modifier.PROTECTED)) == 0);
            noneIsNamedSo(inside, names);
        }
    }

    private static void noneIsNamedSo(Class<?> c, Set<String> names) {
        for (Method m : c.getDeclaredMethods()) {
            if (!Modifier.isPublic(m.getModifiers())) {
                Check.so(m + " is private", Modifier.isPrivate(m.getModifiers()));
                Check.so(m + " bears no name of the face", !names.contains(m.getName()));
            }
        }
    }
}
