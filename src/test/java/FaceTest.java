import java.lang.reflect.Constructor;
import java.lang.reflect.Field;
import java.lang.reflect.Method;
import java.lang.reflect.Modifier;
import java.nio.file.Files;
import java.nio.file.Path;
import java.util.Arrays;
import java.util.Set;
import java.util.TreeSet;
import java.util.regex.Matcher;
import java.util.regex.Pattern;

/** The public face is that of the document and no more, and the source keeps to LANGUAGE.md where that can be seen. */
public final class FaceTest {
    private static final String[] METHODS = {
        "int road(int,int)", "int rumour(int,int)", "boolean rooms(int,int)", "int feed(int,int,int,int,int)",
        "int end(int)", "int text()", "int fault(int)", "boolean by(int)", "boolean tell(int,int)",
        "boolean hush(int,int)", "boolean gift(int,int)", "int day(int)", "int played(int)", "int years(int,int)",
        "int undo()", "int of(int,int)", "int ofRumour(int,int)", "int believes(int,int)", "int rent(int,int)",
        "int is(int)", "int book(int,int)", "int foretold(int,int,int)", "int far(int,int)", "int path(int,int,int)",
        "int out(int)", "int centre(boolean)", "int wide()", "int parts()", "int threes()", "int trees()",
        "long colours(int)", "int colour(int,int)", "int round(int)", "int rounds()", "int block(int,int,boolean)",
        "int agents(int,boolean)", "int reach(int,int,boolean)", "int heard(int,int)", "int began(int)",
        "int since(int)", "int ask(int)", "int pack(int)", "int packed(int)", "int said(int,int,int)", "int whose()",
        "int dearest()", "int richest()", "int ledger(int)", "int image()", "int back()", "int about(int)"};
    // throw, try and their like; what isn't in the library's list; texts joined by +; lambdas.
    private static final String[] REFUSED = {"\\bthrow\\b", "\\btry\\b", "\\bcatch\\b", "\\bassert\\b",
        "\\bsynchronized\\b", "\\bimport\\b", "\\bpackage\\b", "->", "::", "Exact\\b", "\\bdouble\\b", "\\bfloat\\b",
        "System\\.(?!arraycopy)", "\\bprotected\\b", "\"\\s*\\+", "\\+\\s*\"", "\\bhashCode\\b", "\\btoString\\b"};

    public static void main(String[] args) throws Exception {
        Check.due("the class is public and final",
            RumourRent.class.getModifiers() == (Modifier.PUBLIC | Modifier.FINAL), true);
        methods();
        others();
        source();
        Check.finish("FaceTest");
    }

    private static String tell(Method m) {
        StringBuilder s = new StringBuilder(m.getReturnType().getName() + " " + m.getName() + "(");
        for (int i = 0; i < m.getParameterCount(); i++) {
            s.append(i == 0 ? "" : ",").append(m.getParameterTypes()[i].getName());
        }
        return s.append(")").toString();
    }

    private static void methods() {
        Set<String> due = new TreeSet<>(Arrays.asList(METHODS));
        Set<String> names = new TreeSet<>();
        for (Method m : RumourRent.class.getDeclaredMethods()) {
            if (Modifier.isPublic(m.getModifiers())) {
                names.add(m.getName());
                Check.due("of the document: " + tell(m), due.remove(tell(m)), true);
                Check.due("of the object: " + tell(m), Modifier.isStatic(m.getModifiers()), false);
            }
        }
        Check.due("missing are " + due, due.size(), 0);
        for (Class<?> c : RumourRent.class.getDeclaredClasses()) {
            for (Method m : c.getDeclaredMethods()) {
                Check.due(c.getName() + "." + m.getName() + " has a name of the face", names.contains(m.getName()), false);
                Check.due(m + " parameters", m.getParameterCount() <= 7, true);
            }
            Check.due(c + " is static", Modifier.isStatic(c.getModifiers()), true);
            Check.due(c + " isn't seen", (c.getModifiers() & (Modifier.PUBLIC | Modifier.PROTECTED)) == 0, true);
            Check.due(c + " fields", fieldsOf(c) <= 20, true);
        }
        Check.due("fields", fieldsOf(RumourRent.class) <= 20, true);
        Check.due("classes", RumourRent.class.getDeclaredClasses().length <= 11, true);
    }

    private static long fieldsOf(Class<?> c) {
        return Arrays.stream(c.getDeclaredFields()).filter(f -> !Modifier.isStatic(f.getModifiers())).count();
    }

    private static void others() {
        for (Method m : RumourRent.class.getDeclaredMethods()) {
            boolean seen = Modifier.isPublic(m.getModifiers()) || Modifier.isPrivate(m.getModifiers()) || m.isSynthetic();
            Check.due(m + " is public or private", seen, true);
        }
        for (Field f : RumourRent.class.getDeclaredFields()) {
            boolean none = f.getName().equals("NONE");
            Check.due(f + " is private", Modifier.isPrivate(f.getModifiers()), !none);
            if (Modifier.isStatic(f.getModifiers())) {
                Check.due(f + " is final", Modifier.isFinal(f.getModifiers()), true);
            }
        }
        Constructor<?>[] all = RumourRent.class.getDeclaredConstructors();
        Check.due("one constructor", all.length, 1);
        Check.due("it is public", Modifier.isPublic(all[0].getModifiers()), true);
        Check.due("it takes nothing", all[0].getParameterCount(), 0);
    }

    private static void source() throws Exception {
        Path path = Path.of(System.getProperty("project.root", "."), "src/main/java/RumourRent.java");
        String source = Files.readString(path);
        String code = source.replaceAll("/\\*(?s:.*?)\\*/", "").replaceAll("//[^\n]*", "");
        for (String refused : REFUSED) {
            Matcher m = Pattern.compile(refused).matcher(code);
            Check.due("in the source there is " + refused, m.find(), false);
        }
        Check.due("characters 1 to 127", source.chars().allMatch(c -> c > 0 && c < 128), true);
    }
}
