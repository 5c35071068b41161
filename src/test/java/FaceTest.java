import java.lang.reflect.Constructor;
import java.lang.reflect.Field;
import java.lang.reflect.Method;
import java.lang.reflect.Modifier;
import java.util.Set;
import java.util.TreeSet;

/** The public face is the document's and nothing more (LANGUAGE.md, rule 1). */
public final class FaceTest {
    private static final String[] FACE = {
        "int feed(int,int,int,int,int)", "int town(int)", "int fault()", "int where()",
        "int man(int,int)", "int motion(int,int)", "int floor(int)", "int bald()", "int longest()", "int ready()",
        "int quorum()", "int behind(int)", "int depth(int)",
        "int longIn(int,int)", "int yesIn(int,int)", "int carryIn(int)", "int hairyIn()", "int soonest()",
        "int worthOf(int,int)", "int bestRow(int)", "int bestWorth(int)", "int bestCarried(int)", "int weeksFor(int)",
        "int swings(int,int)", "int mighty(int)", "int outvoted(int)", "int bench(int)", "int parting()",
        "int left()", "int peace()", "int apart(int,int)", "int round()", "int roundAt(int)",
        "int fits()", "int fitAt(int)", "int could()", "int surely()", "int ask()", "int askLeaves()",
        "int talk(int,boolean,boolean,boolean)", "int rests(int)", "int rest(int)",
        "long odds(int,boolean)", "long mean(int,boolean)", "int shaves(int,int,int)", "int carries(int,int,int)",
        "int put(int)", "int week()", "int shave(int)", "boolean undo()", "int image()", "boolean back(int)",
        "int led(int)", "int size(int)", "int trouble()"
    };

    public static void main(String[] args) {
        Check check = new Check("face");
        Set<String> due = new TreeSet<>(Set.of(FACE));
        Set<String> names = new TreeSet<>();
        Set<String> found = new TreeSet<>();
        for (Method m : BarberMinutes.class.getDeclaredMethods()) {
            if (Modifier.isPublic(m.getModifiers())) {
                found.add(signature(m));
                names.add(m.getName());
            }
        }
        check.same("public methods", found.toString(), due.toString());
        checkHidden(check, BarberMinutes.class, names);
        for (Class<?> inside : BarberMinutes.class.getDeclaredClasses()) {
            check.same(inside + " is static", Modifier.isStatic(inside.getModifiers()), true);
            for (Method m : inside.getDeclaredMethods()) {
                check.same(inside + " has its own name for " + m.getName(), names.contains(m.getName()), false);
            }
        }
        check.same("final", Modifier.isFinal(BarberMinutes.class.getModifiers()), true);
        check.same("constructors", BarberMinutes.class.getDeclaredConstructors().length, 1);
        for (Constructor<?> c : BarberMinutes.class.getDeclaredConstructors()) {
            check.same("constructor is public", Modifier.isPublic(c.getModifiers()), true);
            check.same("constructor's parameters", c.getParameterCount(), 0);
        }
        check.end();
    }

    private static void checkHidden(Check check, Class<?> face, Set<String> names) {
        for (Method m : face.getDeclaredMethods()) {
            if (!Modifier.isPublic(m.getModifiers())) {
                check.same(m + " is private", Modifier.isPrivate(m.getModifiers()), true);
                check.same(m + " has a name of its own", names.contains(m.getName()), false);
            }
        }
        for (Field f : face.getDeclaredFields()) {
            boolean constant = f.getName().equals("NONE");
            check.same(f + " is seen", Modifier.isPublic(f.getModifiers()), constant);
            check.same(f + " is private", Modifier.isPrivate(f.getModifiers()), !constant);
        }
    }

    private static String signature(Method m) {
        StringBuilder text = new StringBuilder(m.getReturnType() + " " + m.getName() + "(");
        for (Class<?> type : m.getParameterTypes()) {
            text.append(text.charAt(text.length() - 1) == '(' ? "" : ",").append(type);
        }
        return text.append(")").toString();
    }
}
