import java.lang.reflect.Constructor;
import java.lang.reflect.Field;
import java.lang.reflect.Method;
import java.lang.reflect.Modifier;
import java.util.Set;
import java.util.TreeSet;

/** The public face is the document's, and nothing else of the class is seen from outside. */
public final class FaceTest {
    private static final String[] FACE = {
        "int write(int)", "int wipe()", "int fault()", "int town()", "int rumour(int,int)", "int table(int)",
        "int coins(int,int)", "int dawn()", "int say(int,int)", "int deny(int,int)", "int pay(int,int,int)",
        "int undo()", "int worth(int,int)", "int purse(int,int)", "int bestDay(int)", "int reach(int,int)",
        "int plan(int,int,boolean)", "int holds(int,boolean)", "int judge(int,long)",
        "int hear(int,int,int,boolean)", "int unhear()", "int where(int,int)", "int share(int,int,int,boolean)",
        "int rests(int,int,int,int)", "int chance(int,int,int,boolean)", "long seed(long)", "int weeks(int)",
        "int keep(int)", "int again(int)", "int count(int)",
    };

    public static void main(String[] args) {
        Due due = new Due("FaceTest");
        methods(due);
        fieldsAndConstructors(due);
        due.is("UNKNOWN", DawnCoin.UNKNOWN, -1);
        due.is("OUTSIDE", DawnCoin.OUTSIDE, -2);
        due.is("STATE", DawnCoin.STATE, -3);
        due.is("FULL", DawnCoin.FULL, -4);
        due.is("NONE", DawnCoin.NONE, -9);
        due.end();
    }

    private static void methods(Due due) {
        Set<String> open = new TreeSet<>();
        Set<String> names = new TreeSet<>();
        for (Method m : DawnCoin.class.getDeclaredMethods()) {
            if (!Modifier.isPrivate(m.getModifiers())) {
                open.add(signature(m));
                names.add(m.getName());
                due.is(m + " is public and no more", m.getModifiers(), Modifier.PUBLIC);
            }
        }
        due.holds("the face " + open, open.equals(new TreeSet<>(Set.of(FACE))));
        for (Method m : DawnCoin.class.getDeclaredMethods()) {
            boolean hidden = Modifier.isPrivate(m.getModifiers());
            due.holds(m + " bears no public name", !hidden || !names.contains(m.getName()));
        }
        for (Class<?> inside : DawnCoin.class.getDeclaredClasses()) {
            due.holds(inside + " is static", Modifier.isStatic(inside.getModifiers()));
            for (Method m : inside.getDeclaredMethods()) {
                boolean hidden = Modifier.isPrivate(m.getModifiers());
                due.holds(m + " bears no public name", !hidden || !names.contains(m.getName()));
            }
        }
    }

    private static String signature(Method m) {
        StringBuilder text = new StringBuilder(m.getReturnType().getName() + " " + m.getName() + "(");
        for (Class<?> type : m.getParameterTypes()) {
            text.append(text.charAt(text.length() - 1) == '(' ? "" : ",").append(type.getName());
        }
        return text.append(")").toString();
    }

    private static void fieldsAndConstructors(Due due) {
        due.is("modifiers of the class", DawnCoin.class.getModifiers(), Modifier.PUBLIC | Modifier.FINAL);
        Set<String> open = new TreeSet<>();
        for (Field f : DawnCoin.class.getDeclaredFields()) {
            if (!Modifier.isPrivate(f.getModifiers())) {
                open.add(f.getName());
            }
            boolean fixed = !Modifier.isStatic(f.getModifiers()) || Modifier.isFinal(f.getModifiers());
            due.holds(f + " is final if it is static", fixed);
        }
        due.holds("constants " + open, open.equals(new TreeSet<>(Set.of("UNKNOWN", "OUTSIDE", "STATE", "FULL", "NONE"))));
        Constructor<?>[] made = DawnCoin.class.getDeclaredConstructors();
        due.is("constructors", made.length, 1);
        due.is("its modifiers", made[0].getModifiers(), Modifier.PUBLIC);
        due.is("its parameters", made[0].getParameterCount(), 0);
    }
}
