import java.lang.reflect.Constructor;
import java.lang.reflect.Field;
import java.lang.reflect.Method;
import java.lang.reflect.Modifier;
import java.util.Arrays;
import java.util.Set;
import java.util.TreeSet;

/** The face that the document prints, and what LANGUAGE.md's rules 1, 5 and 11 say of members. */
public final class FaceTests {
    private static final String[] FACE = {
        "int channel(int,int,int)", "int state(int)", "int change(int,int,int,int)",
        "int lock(int,int,int,int,int,int)", "int unlock(int,int,boolean)", "int game(int,int,int,int,int)",
        "int move(int,int)", "int out(int,int,int)", "int sign(int,int)", "int show(int,int)",
        "int agree(int,int)", "int secret(int)", "int tell(int,int,int)", "int claim(int,int,int)",
        "int step(int,int,int)", "int watch(int,boolean)", "int height(int)", "int hop(int,int,int)",
        "int pay(int,int)", "int account(int)", "int told(int,int)", "int of(int,int)",
        "int share(int,int,int)", "int locked(int,int,int)", "int knows(int)", "int count(int)",
    };

    private static String text(Method method) {
        StringBuilder text = new StringBuilder(method.getReturnType() + " " + method.getName() + "(");
        String comma = "";
        for (Class<?> type : method.getParameterTypes()) {
            text.append(comma).append(type);
            comma = ",";
        }
        return text.append(")").toString();
    }

    public static void main(String[] args) throws Exception {
        Due due = new Due("FaceTests");
        due.part("face");
        Class<?> face = StateChannels.class;
        due.holds("public final", Modifier.isPublic(face.getModifiers()) && Modifier.isFinal(face.getModifiers()));
        due.holds("extends Object alone", face.getSuperclass() == Object.class && face.getInterfaces().length == 0);

        Set<String> found = new TreeSet<>();
        Set<String> publicNames = new TreeSet<>();
        for (Method method : face.getDeclaredMethods()) {
            if (!Modifier.isPrivate(method.getModifiers())) {
                found.add((Modifier.isPublic(method.getModifiers()) ? "" : "not public: ") + text(method));
                publicNames.add(method.getName());
                due.holds(method.getName() + " is no static one", !Modifier.isStatic(method.getModifiers()));
            }
        }
        due.holds("methods " + found, found.equals(new TreeSet<>(Arrays.asList(FACE))));
        for (Method method : face.getDeclaredMethods()) {
            due.holds("private name " + method.getName(),
                    !Modifier.isPrivate(method.getModifiers()) || !publicNames.contains(method.getName()));
        }

        Constructor<?>[] constructors = face.getDeclaredConstructors();
        due.same("constructors", constructors.length, 1);
        due.holds("constructor is public", Modifier.isPublic(constructors[0].getModifiers()));
        due.same("its parameters", constructors[0].getParameterCount(), 0);

        checkFields(due, face);
        due.same("NONE", StateChannels.NONE, -1);
        due.holds("at most 12 classes", face.getDeclaredClasses().length < 12);
        for (Class<?> inside : face.getDeclaredClasses()) {
            due.holds(inside + " is static and not public",
                    Modifier.isStatic(inside.getModifiers()) && !Modifier.isPublic(inside.getModifiers()));
            due.holds(inside + " has at most 20 fields", inside.getDeclaredFields().length <= 20);
        }
        due.end();
    }

    private static void checkFields(Due due, Class<?> face) {
        int own = 0;
        for (Field field : face.getDeclaredFields()) {
            int is = field.getModifiers();
            if (Modifier.isStatic(is)) {
                due.holds(field.getName() + " is final", Modifier.isFinal(is));
            } else {
                own++;
            }
            due.holds(field.getName() + " is private, or NONE",
                    Modifier.isPrivate(is) != field.getName().equals("NONE"));
        }
        due.holds("at most 20 fields", own <= 20);
    }
}
