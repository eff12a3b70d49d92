import java.lang.reflect.Constructor;
import java.lang.reflect.Executable;
import java.lang.reflect.Field;
import java.lang.reflect.Method;
import java.lang.reflect.Modifier;
import java.util.ArrayList;
import java.util.HashSet;
import java.util.List;
import java.util.Set;
import java.util.TreeSet;

/** The public face as the document lists it, and the rules of LANGUAGE.md that a class file shows. */
public final class FaceTest {
    private static final Check CHECK = new Check("FaceTest");

    private static final String[] FACE = {
        "ShadeRegister(int, int)",
        "int days(int)",
        "boolean sun(int, int, int, int)",
        "int cloud(int, int)",
        "int person()",
        "boolean died(int, int)",
        "int wall(int, int, int)",
        "int tree(int, int, int, int)",
        "int pole(int, int, int, int, int)",
        "int raise(int, int, int)",
        "boolean fell(int, int)",
        "int height(int, int, int)",
        "int measure(int, int, int)",
        "int thing(int, int)",
        "int entry(int, int, int)",
        "int grant(int, int, int, int, int, int, int, int)",
        "int holder(int, int, int, int)",
        "int shaded(int, int, int, int)",
        "int parts(int, int, int, int, int)",
        "int shadow(int, int, int, int)",
        "long account(int, int, int, int)",
        "long bill(int, int, int, int)",
        "int feed(int, int, int, int, int)",
        "int end(int)",
        "int tariff()",
        "int fault(int)",
        "int gives(int, int, int, int, int, int)",
        "int stall(int, int, int)",
        "boolean place(int, int, int)",
        "int placeOf(int, int)",
        "long fees(int, int, int)",
        "int walk(int, int, int, int, int)",
        "long walked(int)",
        "int best(int, int)",
        "int serves(int, int)",
        "int about(int)",
        "int NONE",
    };

    public static void main(String[] args) {
        CHECK.holds("public", Modifier.isPublic(ShadeRegister.class.getModifiers()));
        CHECK.holds("final", Modifier.isFinal(ShadeRegister.class.getModifiers()));
        CHECK.due("NONE", ShadeRegister.NONE, -1);
        face();
        names();
        classes();
        CHECK.end();
    }

    private static String told(Executable e) {
        StringBuilder s = new StringBuilder();
        if (e instanceof Method) {
            s.append(((Method) e).getReturnType()).append(' ');
        }
        s.append(e.getName()).append('(');
        for (int i = 0; i < e.getParameterCount(); i++) {
            s.append(i == 0 ? "" : ", ").append(e.getParameterTypes()[i]);
        }
        return s.append(')').toString();
    }

    private static void face() {
        Set<String> want = new TreeSet<>(List.of(FACE));
        Set<String> seen = new TreeSet<>();
        for (Constructor<?> c : ShadeRegister.class.getDeclaredConstructors()) {
            seen.add(Modifier.isPublic(c.getModifiers()) ? told(c) : "hidden " + told(c));
        }
        for (Method m : ShadeRegister.class.getDeclaredMethods()) {
            if (Modifier.isPublic(m.getModifiers())) {
                seen.add(Modifier.isStatic(m.getModifiers()) ? "static " + told(m) : told(m));
            } else if (!Modifier.isPrivate(m.getModifiers())) {
                seen.add("not private: " + told(m));
            }
        }
        for (Field f : ShadeRegister.class.getDeclaredFields()) {
            boolean constant = Modifier.isStatic(f.getModifiers()) && Modifier.isFinal(f.getModifiers());
            if (Modifier.isPublic(f.getModifiers()) && constant) {
                seen.add(f.getType() + " " + f.getName());
            } else if (!Modifier.isPrivate(f.getModifiers())) {
                seen.add("not private: " + f.getName());
            }
        }
        for (String one : want) {
            CHECK.holds("has " + one, seen.contains(one));
        }
        for (String one : seen) {
            CHECK.holds("is asked for: " + one, want.contains(one));
        }
    }

    private static void names() {
        Set<String> open = new HashSet<>();
        for (Method m : ShadeRegister.class.getDeclaredMethods()) {
            if (Modifier.isPublic(m.getModifiers())) {
                open.add(m.getName());
            }
        }
        List<Method> hidden = new ArrayList<>();
        for (Class<?> c : ShadeRegister.class.getDeclaredClasses()) {
            hidden.addAll(List.of(c.getDeclaredMethods()));
        }
        for (Method m : ShadeRegister.class.getDeclaredMethods()) {
            if (!Modifier.isPublic(m.getModifiers())) {
                hidden.add(m);
            }
        }
        for (Method m : hidden) {
            CHECK.holds("no public name: " + m, !open.contains(m.getName()));
            CHECK.holds("seven parameters at most: " + m, m.getParameterCount() <= 7);
        }
    }

    private static void classes() {
        Class<?>[] inside = ShadeRegister.class.getDeclaredClasses();
        CHECK.holds("twelve classes at most", inside.length + 1 <= 12);
        List<Class<?>> all = new ArrayList<>(List.of(inside));
        all.add(ShadeRegister.class);
        for (Class<?> c : all) {
            CHECK.holds("static: " + c, c == ShadeRegister.class || Modifier.isStatic(c.getModifiers()));
            int fields = 0;
            for (Field f : c.getDeclaredFields()) {
                boolean constant = Modifier.isStatic(f.getModifiers());
                fields += constant ? 0 : 1;
                CHECK.holds("final, as it is static: " + f, !constant || Modifier.isFinal(f.getModifiers()));
            }
            CHECK.holds("twenty fields at most: " + c, fields <= 20);
        }
    }
}
