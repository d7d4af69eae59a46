import java.lang.reflect.Constructor;
import java.lang.reflect.Field;
import java.lang.reflect.Method;
import java.lang.reflect.Modifier;
import java.util.TreeSet;

/** The public face is the document's, and nothing besides. */
public final class FaceTest {
    private static final String[] METHODS = {
        "int book(int,int,int)", "int bookAll()", "int cancel(int)", "int extend(int,int)",
        "int weather(int,int,int)", "int order(int,int)", "int recall()", "int flight(boolean)",
        "int pass(int)", "int set(int,int)", "int type(char)", "int clearText()", "int fault()",
        "int undo()", "int keep()", "int restore()", "int booking(int,int)", "int day(int,int)",
        "int fresh(int,int)", "int waiting(int,int)", "int count(int)", "int coins(int)",
        "double use(int,int)", "int refund(int)", "int firstFree(int,int)", "int hungryIn()",
        "int wanting(int)", "int goneIn(int)", "int turnedAway(int)", "int bestCall()", "int fullest()",
    };
    private static final String[] CONSTANTS = {"UNKNOWN", "BAD_VALUE", "FULL", "NOT_POSSIBLE", "NONE"};

    private static final Due due = new Due("FaceTest");

    public static void main(String[] args) throws IllegalAccessException {
        Class<HutBookings> face = HutBookings.class;
        due.holds("the class is public and final",
            Modifier.isPublic(face.getModifiers()) && Modifier.isFinal(face.getModifiers()));
        methods(face);
        fields(face);
        constructors(face);
        nestedClasses(face);
        due.end();
    }

    private static void methods(Class<?> face) {
        TreeSet<String> got = new TreeSet<>();
        TreeSet<String> publicNames = new TreeSet<>();
        for (Method method : face.getDeclaredMethods()) {
            if (!Modifier.isPrivate(method.getModifiers())) {
                got.add(told(method));
                publicNames.add(method.getName());
                due.holds(method.getName() + " is public and not static",
                    Modifier.isPublic(method.getModifiers()) && !Modifier.isStatic(method.getModifiers()));
            }
        }
        for (Method method : face.getDeclaredMethods()) {
            due.holds("no private method is called " + method.getName(),
                !Modifier.isPrivate(method.getModifiers()) || !publicNames.contains(method.getName()));
        }
        TreeSet<String> want = new TreeSet<>();
        for (String method : METHODS) {
            want.add(method);
        }
        due.holds("the methods are " + want + " and not " + got, want.equals(got));
    }

    private static String told(Method method) {
        StringBuilder told = new StringBuilder(method.getReturnType() + " " + method.getName() + "(");
        String between = "";
        for (Class<?> type : method.getParameterTypes()) {
            told.append(between).append(type);
            between = ",";
        }
        return told.append(")").toString();
    }

    private static void fields(Class<?> face) throws IllegalAccessException {
        TreeSet<String> got = new TreeSet<>();
        for (Field field : face.getDeclaredFields()) {
            int modifiers = field.getModifiers();
            if (!Modifier.isPrivate(modifiers)) {
                got.add(field.getName());
                due.holds(field.getName() + " is a public constant", Modifier.isPublic(modifiers)
                    && Modifier.isStatic(modifiers) && Modifier.isFinal(modifiers) && field.getType() == int.class);
            }
        }
        TreeSet<String> want = new TreeSet<>();
        for (int i = 0; i < CONSTANTS.length; i++) {
            want.add(CONSTANTS[i]);
        }
        due.holds("the constants are " + want + " and not " + got, want.equals(got));
        due.is("UNKNOWN", HutBookings.UNKNOWN, -1000001);
        due.is("BAD_VALUE", HutBookings.BAD_VALUE, -1000002);
        due.is("FULL", HutBookings.FULL, -1000003);
        due.is("NOT_POSSIBLE", HutBookings.NOT_POSSIBLE, -1000004);
        due.is("NONE", HutBookings.NONE, -1000005);
    }

    private static void constructors(Class<?> face) {
        Constructor<?>[] all = face.getDeclaredConstructors();
        due.is("constructors", all.length, 1);
        due.holds("the constructor is public and takes nothing",
            Modifier.isPublic(all[0].getModifiers()) && all[0].getParameterCount() == 0);
    }

    private static void nestedClasses(Class<?> face) {
        for (Class<?> inside : face.getDeclaredClasses()) {
            due.holds(inside + " is not public", !Modifier.isPublic(inside.getModifiers())
                && !Modifier.isProtected(inside.getModifiers()));
        }
    }
}
