import java.lang.reflect.Constructor;
import java.lang.reflect.Field;
import java.lang.reflect.Method;
import java.lang.reflect.Modifier;
import java.util.Arrays;
import java.util.TreeSet;

/** Promise 1, the constants and the face of the class. */
public final class FaceTest {
    private static final String[] FACE = {
        "int bog(int,int,int)", "boolean test(int,int,int)", "int dig(int,int)", "int coal(int,int)", "int year()",
        "boolean water(int)", "boolean gap(int)", "int feed(int,int,int,int,int)", "boolean end(int)", "int fault()",
        "boolean rules()", "boolean charge(int,int)", "int blow(int)", "int draw()", "int furnace(int)",
        "int forge(int,int)", "int bar(int,int)", "int part(int,int)", "int burnt(int,int)",
        "boolean right(int,int,int,int)", "int pay(int,int)", "int again(int)", "int line(int,int)",
        "int coins(int)", "int order(int,int)", "void clear()", "int met(int)", "int want()", "int ground(int,int)",
        "int count(int)"};

    public static void main(String[] args) {
        Due due = new Due("FaceTest");
        face(due);
        newObject(due);
        objectsAreApart(due);
        due.finish();
    }

    private static void face(Due due) {
        int type = BogForge.class.getModifiers();
        due.yes("class is public", Modifier.isPublic(type));
        due.yes("class is final", Modifier.isFinal(type));
        due.is("NONE", BogForge.NONE, -1);
        TreeSet<String> methods = new TreeSet<>();
        TreeSet<String> publicNames = new TreeSet<>();
        for (Method m : BogForge.class.getDeclaredMethods()) {
            if (Modifier.isPublic(m.getModifiers())) {
                methods.add(signature(m));
                publicNames.add(m.getName());
            }
        }
        due.yes("public methods " + methods, methods.equals(new TreeSet<>(Arrays.asList(FACE))));
        for (Method m : BogForge.class.getDeclaredMethods()) {
            if (!Modifier.isPublic(m.getModifiers())) {
                due.yes(m + " is private", Modifier.isPrivate(m.getModifiers()));
                due.no(m + " bears a public name", publicNames.contains(m.getName()));
            }
        }
        for (Field f : BogForge.class.getDeclaredFields()) {
            boolean told = f.getName().equals("NONE");
            due.yes(f + " is " + (told ? "public" : "private"),
                    told ? Modifier.isPublic(f.getModifiers()) : Modifier.isPrivate(f.getModifiers()));
            due.yes(f + " is final if static",
                    !Modifier.isStatic(f.getModifiers()) || Modifier.isFinal(f.getModifiers()));
        }
        Constructor<?>[] constructors = BogForge.class.getDeclaredConstructors();
        due.is("constructors", constructors.length, 1);
        due.yes("constructor is public", Modifier.isPublic(constructors[0].getModifiers()));
        for (Class<?> inside : BogForge.class.getDeclaredClasses()) {
            due.yes(inside + " is static", Modifier.isStatic(inside.getModifiers()));
            due.no(inside + " is public", Modifier.isPublic(inside.getModifiers()));
        }
    }

    private static String signature(Method m) {
        StringBuilder text = new StringBuilder();
        text.append(m.getReturnType().getName()).append(' ').append(m.getName()).append('(');
        for (int i = 0; i < m.getParameterCount(); i++) {
            text.append(i == 0 ? "" : ",").append(m.getParameterTypes()[i].getName());
        }
        return text.append(')').toString();
    }

    private static void newObject(Due due) {
        BogForge x = new BogForge();
        for (int what = 0; what <= 9; what++) {
            due.is("count(" + what + ")", x.count(what), 0);
        }
        for (int what = 0; what <= 7; what++) {
            due.is("furnace(" + what + ")", x.furnace(what), 0);
        }
        due.is("furnace(8)", x.furnace(8), -1);
        due.is("ground(0, 0)", x.ground(0, 0), -1);
        due.is("bar(0, 0)", x.bar(0, 0), -1);
        due.is("part(0, 0)", x.part(0, 0), 0);
        due.is("burnt(0, 0)", x.burnt(0, 0), 0);
        due.is("dig(0, 1)", x.dig(0, 1), -1);
        due.no("test(0, 0, 1000)", x.test(0, 0, 1_000));
        due.no("right(0, 0, 1, 0)", x.right(0, 0, 1, 0));
        due.is("pay(0, 1)", x.pay(0, 1), -1);
        due.is("again(0)", x.again(0), -1);
        due.is("line(0, 3)", x.line(0, 3), 0);
        for (int holder = 0; holder < 8; holder++) {
            due.is("coins(" + holder + ")", x.coins(holder), 0);
        }
        due.is("met(0)", x.met(0), -1);
        due.is("want()", x.want(), 0);
        due.is("fault()", x.fault(), -1);
        due.yes("end(0)", x.end(0));
        due.no("end(1)", x.end(1));
        due.is("draw()", x.draw(), -1);
        due.no("charge(1, 0)", x.charge(1, 0));
        due.no("charge(0, 1)", x.charge(0, 1));
        due.is("forge(0, 1)", x.forge(0, 1), -1);
        due.is("blow(3)", x.blow(3), 0);
        due.is("AIR without rules", x.furnace(2), 0);
        waterAndGapAtFirst(due);
    }

    private static void waterAndGapAtFirst(Due due) {
        BogForge x = Kit.works();
        Kit.rules(x, "m<2:9");
        x.charge(0, 100);
        x.blow(1);
        due.is("WATER 9 at first: COAL left", x.furnace(4), 91);
        x.blow(1);
        due.is("GAP 1 at first: SEEN", x.furnace(1), 104);
    }

    private static void objectsAreApart(Due due) {
        BogForge x = new BogForge();
        BogForge y = new BogForge();
        x.bog(5, 0, 0);
        Kit.tape(x, "h");
        x.order(0, 0);
        x.coal(1, 7);
        due.is("BOGS of another object", y.count(1), 0);
        due.is("TAPE of another object", y.count(7), 0);
        due.is("ORDERS of another object", y.count(5), 0);
        due.is("COAL of another object", y.count(8), 0);
    }
}
