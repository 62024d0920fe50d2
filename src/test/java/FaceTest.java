import java.lang.reflect.Constructor;
import java.lang.reflect.Field;
import java.lang.reflect.Method;
import java.lang.reflect.Modifier;
import java.util.TreeSet;

/** The face of the class, member by member: the constants, the constructor, the methods with what they throw. */
public final class FaceTest {
    private static final String INDEX = "IndexOutOfBoundsException";
    private static final String ARGUMENT = "IllegalArgumentException";
    private static final String STATE = "IllegalStateException";

    public static void main(String[] args) throws Exception {
        Expect expect = new Expect("FaceTest");
        constants(expect);
        constructors(expect);
        methods(expect);
        insideClasses(expect);
        expect.finish();
    }

    /**
     * Terms: "The constants: `NONE = -1`: There is none."
     * Terms: "`LOOSE = 0, ONCE_OR_MORE = 1, JUST_ONCE = 2`: Modes of links."
     * Terms: "`ACCEPTED = 0, REJECTED = 1, RELEASED = 2`: Outcomes."
     * Terms: "`OPEN = 0, SETTLED = 1`: What a delivery is for the sender."
     * Terms: "`UNKNOWN = 0, PARTLY = 1, WHOLE = 2, DECIDED = 3, FORGOTTEN = 4`: What a delivery is for the receiver."
     */
    private static void constants(Expect expect) throws Exception {
        String[] due = {"NONE -1", "LOOSE 0", "ONCE_OR_MORE 1", "JUST_ONCE 2", "ACCEPTED 0", "REJECTED 1",
            "RELEASED 2", "OPEN 0", "SETTLED 1", "UNKNOWN 0", "PARTLY 1", "WHOLE 2", "DECIDED 3", "FORGOTTEN 4"};
        TreeSet<String> found = new TreeSet<>();
        for (Field field : CreditLinks.class.getDeclaredFields()) {
            int m = field.getModifiers();
            if (Modifier.isStatic(m)) {
                expect.yes(field.getName() + " is final", Modifier.isFinal(m));
            }
            if (!Modifier.isPrivate(m)) {
                expect.yes(field.getName() + " is public static int",
                    Modifier.isPublic(m) && Modifier.isStatic(m) && field.getType() == int.class);
                found.add(field.getName() + " " + field.getInt(null));
            }
        }
        expect.same("the constants", found.toString(), new TreeSet<>(java.util.List.of(due)).toString());
    }

    private static void constructors(Expect expect) {
        Constructor<?>[] all = CreditLinks.class.getDeclaredConstructors();
        expect.same("how many constructors", all.length, 1);
        expect.same("the constructor", all[0].toString(), "public CreditLinks()");
        expect.yes("the class is public and final", Modifier.isPublic(CreditLinks.class.getModifiers())
            && Modifier.isFinal(CreditLinks.class.getModifiers()));
    }

    private static void methods(Expect expect) {
        String[] due = {
            face("int setMode(int,int)", INDEX, ARGUMENT), face("int grant(int,int)", INDEX, ARGUMENT, STATE),
            face("int credit(int)", INDEX), face("int send(int,int)", INDEX, ARGUMENT, STATE),
            face("int toReceiver(int)", ARGUMENT), face("int toSender(int)", ARGUMENT),
            face("int decide(int,int)", INDEX, ARGUMENT, STATE), face("int deliveries()"), face("int underWay()"),
            face("int backUnderWay()"), face("int forSender(int)", INDEX), face("int heard(int)", INDEX),
            face("int forReceiver(int)", INDEX), face("int effects(int)", INDEX), face("int breakOff()", STATE),
            face("int join()", STATE), face("int wouldResend()"), face("boolean isUp()"), face("int begin()", STATE),
            face("int tell(int,int)", INDEX, ARGUMENT, STATE), face("int end(boolean)", STATE)};
        TreeSet<String> found = new TreeSet<>();
        TreeSet<String> publicNames = new TreeSet<>();
        TreeSet<String> privateNames = new TreeSet<>();
        for (Method method : CreditLinks.class.getDeclaredMethods()) {
            if (Modifier.isPrivate(method.getModifiers())) {
                privateNames.add(method.getName());
            } else {
                found.add(method.toString().replace("CreditLinks.", "").replace("java.lang.", ""));
                publicNames.add(method.getName());
            }
        }
        expect.same("the methods", found.toString(), new TreeSet<>(java.util.List.of(due)).toString());
        privateNames.retainAll(publicNames);
        expect.same("private methods with a public one's name", privateNames.toString(), "[]");
    }

    private static String face(String call, String... thrown) {
        return "public " + call + (thrown.length == 0 ? "" : " throws " + String.join(",", thrown));
    }

    private static void insideClasses(Expect expect) {
        for (Class<?> inside : CreditLinks.class.getDeclaredClasses()) {
            int m = inside.getModifiers();
            expect.yes(inside.getName() + " is static, and neither public nor protected",
                Modifier.isStatic(m) && !Modifier.isPublic(m) && !Modifier.isProtected(m));
        }
    }
}
