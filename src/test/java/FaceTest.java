import java.lang.reflect.Constructor;
import java.lang.reflect.Field;
import java.lang.reflect.Method;
import java.lang.reflect.Modifier;
import java.util.Arrays;
import java.util.TreeSet;

/** The public face, and promise 1: a new object has nothing. */
public final class FaceTest {
    private static final String FACE = "feed(long,long,long)int province()int past()int town(int,int)int "
            + "company(int,int)int juror(int,int)int holder()int bid(int,int)boolean award()int year(int)int "
            + "take(int,int)int lend(int,int)int call(int,int)int spare(int)int bribe(int)boolean sue()int "
            + "close()boolean undo()boolean judged(int)int worth(int)int news()int gather(int,int,int,int)int "
            + "rate(int,int,int)int free(int)int agree(int,int)int tale(int,int)boolean knew(int,int)int "
            + "secret()int next()int rests(int,int,int)int lustra(int,int,int)int mark(int,boolean)boolean "
            + "count(int)int";

    public static void main(String[] args) {
        face();
        newObject();
        Check.end();
    }

    private static void face() {
        TreeSet<String> wanted = new TreeSet<>(Arrays.asList(FACE.split(" ")));
        TreeSet<String> names = new TreeSet<>();
        for (String signature : wanted) {
            names.add(signature.substring(0, signature.indexOf('(')));
        }
        TreeSet<String> found = new TreeSet<>();
        for (Method method : TaxFarm.class.getDeclaredMethods()) {
            if (Modifier.isPrivate(method.getModifiers())) {
                Check.due("private method named as a public one: " + method.getName(), false,
                        names.contains(method.getName()));
            } else {
                found.add(signature(method));
            }
        }
        Check.due("methods of the face " + found, true, found.equals(wanted));
        for (Field field : TaxFarm.class.getDeclaredFields()) {
            boolean hidden = Modifier.isPrivate(field.getModifiers()) || field.getName().equals("NONE");
            Check.due("field " + field.getName() + " is private or NONE", true, hidden);
        }
        Constructor<?>[] constructors = TaxFarm.class.getConstructors();
        Check.due("constructors", 1, constructors.length);
        Check.due("final", true, Modifier.isFinal(TaxFarm.class.getModifiers()));
        Check.due("NONE", -1, TaxFarm.NONE);
    }

    private static String signature(Method method) {
        StringBuilder text = new StringBuilder(method.getName()).append('(');
        for (Class<?> type : method.getParameterTypes()) {
            text.append(text.charAt(text.length() - 1) == '(' ? "" : ",").append(type.getName());
        }
        return text.append(')').append(method.getReturnType().getName()).toString();
    }

    private static void newObject() {
        TaxFarm x = new TaxFarm();
        for (int what = 0; what <= 12; what++) {
            Check.due("new: count(" + what + ")", 0, x.count(what));
        }
        Check.due("new: holder()", -1, x.holder());
        Check.due("new: town(0, 1)", -1, x.town(0, 1));
        Check.due("new: company(0, 1)", -1, x.company(0, 1));
        Check.due("new: juror(0, 1)", -2, x.juror(0, 1));
        Check.due("new: bid(0, 0)", false, x.bid(0, 0));
        Check.due("new: award()", -2, x.award());
        Check.due("new: year(0)", -1, x.year(0));
        Check.due("new: sue()", -1, x.sue());
        Check.due("new: close()", false, x.close());
        Check.due("new: undo()", false, x.undo());
        Check.due("new: judged(0)", -1, x.judged(0));
        Check.due("new: judged(1)", 0, x.judged(1));
        Check.due("new: judged(2)", 0, x.judged(2));
        Check.due("new: secret()", 0, x.secret());
        Check.due("new: next()", -1, x.next());
        Check.due("new: free(0)", -1, x.free(0));
        Check.due("new: lustra(1, 50, 2)", 0, x.lustra(1, 50, 2));
        Check.due("new: mark(0, true)", false, x.mark(0, true));
        Check.due("new: mark(0, false)", true, x.mark(0, false));
        Check.due("new: mark(0, true) of one laid", true, x.mark(0, true));
        Check.due("new: past() of nothing", 0, x.past());
        Check.due("new: province() of nothing", 0, x.province());
    }
}
