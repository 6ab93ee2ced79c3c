import java.io.IOException;
import java.lang.reflect.Constructor;
import java.lang.reflect.Field;
import java.lang.reflect.Method;
import java.lang.reflect.Modifier;
import java.nio.file.Files;
import java.nio.file.Path;
import java.util.ArrayList;
import java.util.Arrays;
import java.util.List;
import java.util.Set;
import java.util.TreeSet;
import java.util.regex.Matcher;
import java.util.regex.Pattern;

/** The public face, and the rules of LANGUAGE.md that can be looked up. */
public final class FaceTest {
    private static final String FACE = "type(long)int fault()int play()int account(int)int shop(int,int)int "
            + "card(int,int,int,int)int setHouse(int,int,int)int pay(int,int,int,int)int sends(int)int "
            + "backMoney(int,int,int)int forge(int,int,int)int passes(int)int faults(int,int,int,int)int "
            + "setOpen(boolean)int tells(int,int)int stolen(int)boolean freeze(int,boolean)boolean dispute(int)int "
            + "endDay()int cardAt(int,int)int paymentAt(int,int)int knows(int,int)int accountAt(int,int)long "
            + "shopAt(int,int)long count(int)int fees()long meanPayment(int)double grantedShare()float "
            + "checksum()long errors()int";
    private static final String[] RULED_OUT = {"\\bcatch\\b", "\\btry\\b", "\\bfinally\\b", "->", "::", "\\bassert\\b",
        "\\bsynchronized\\b", "\\bpackage\\b", "import (?!java\\.util\\.ArrayList;)", "\\bMath\\.\\w+Exact\\b",
        "\\bSystem\\.(?!arraycopy)", "\\bString\\.", "\\bequals\\(", "\\bhashCode\\b", "\\bstatic \\{",
        "\\[\\]\\[\\]\\[\\]", "\\bfor \\([^;]*:[^;]*\\)", "\\bwhile\\b", "\\brecord [A-Z]"};

    public static void main(String[] args) throws IOException {
        face();
        classes();
        source();
        Check.finish("FaceTest");
    }

    private static void face() {
        Set<String> got = new TreeSet<>();
        Set<String> privates = new TreeSet<>();
        for (Method method : Chipcardhouse.class.getDeclaredMethods()) {
            if (Modifier.isPublic(method.getModifiers())) {
                List<String> types = new ArrayList<>();
                for (Class<?> type : method.getParameterTypes()) {
                    types.add(type.getName());
                }
                got.add(method.getName() + "(" + String.join(",", types) + ")" + method.getReturnType().getName());
            } else {
                Check.due(method + " is private", Modifier.isPrivate(method.getModifiers()), true);
                privates.add(method.getName());
            }
        }
        Set<String> due = new TreeSet<>(Arrays.asList(FACE.split(" ")));
        Check.due("the public methods " + got, got.equals(due), true);
        for (String name : due) {
            String plain = name.substring(0, name.indexOf('('));
            Check.due("a private method has the name " + plain, privates.contains(plain), false);
        }
        for (Field field : Chipcardhouse.class.getDeclaredFields()) {
            boolean isFace = field.getName().equals("NONE");
            Check.due(field + " is public", Modifier.isPublic(field.getModifiers()), isFace);
            Check.due(field + " is private", Modifier.isPrivate(field.getModifiers()), !isFace);
            Check.due(field + " is static and not final", Modifier.isStatic(field.getModifiers())
                    && !Modifier.isFinal(field.getModifiers()), false);
        }
        Constructor<?>[] constructors = Chipcardhouse.class.getDeclaredConstructors();
        Check.due("one constructor", constructors.length, 1);
        Check.due("it is public", Modifier.isPublic(constructors[0].getModifiers()), true);
        Check.due("the class is final", Modifier.isFinal(Chipcardhouse.class.getModifiers()), true);
    }

    private static void classes() {
        Class<?>[] inside = Chipcardhouse.class.getDeclaredClasses();
        Check.due("at most twelve classes", inside.length + 1 <= 12, true);
        for (Class<?> one : inside) {
            Check.due(one + " is static", Modifier.isStatic(one.getModifiers()), true);
            Check.due(one + " is private", Modifier.isPrivate(one.getModifiers()), true);
            int fields = 0;
            for (Field field : one.getDeclaredFields()) {
                fields += Modifier.isStatic(field.getModifiers()) ? 0 : 1;
            }
            Check.due(one + " has at most twenty fields", fields <= 20, true);
            for (Method method : one.getDeclaredMethods()) {
                Check.due(method + " has at most seven parameters", method.getParameterCount() <= 7, true);
            }
        }
    }

    private static void source() throws IOException {
        String text = Files.readString(Path.of("src/main/java/Chipcardhouse.java"));
        String code = text.replaceAll("(?s)/\\*.*?\\*/", "").replaceAll("//[^\n]*", "");
        for (String ruledOut : RULED_OUT) {
            Matcher matcher = Pattern.compile(ruledOut).matcher(code);
            Check.due(ruledOut + " stands in the source", matcher.find(), false);
        }
        Matcher thrown = Pattern.compile("throw new (\\w+)\\(\\)").matcher(code);
        Set<String> kinds = new TreeSet<>();
        while (thrown.find()) {
            kinds.add(thrown.group(1));
        }
        Check.due("what is thrown: " + kinds, kinds.toString().equals(
                "[IllegalArgumentException, IllegalStateException, IndexOutOfBoundsException]"), true);
        for (char sign : text.toCharArray()) {
            if (sign > 126) {
                Check.due("a sign above 126 in the source", sign, 0);
            }
        }
        int open = 0;
        String[] lines = text.split("\n");
        for (int i = 0; i < lines.length; i++) {
            if (lines[i].matches(" {4}( {4})?[a-zA-Z].*\\).*\\{")) {
                open = i;
            }
            if (lines[i].matches(" {4}( {4})?\\}")) {
                Check.due("the method that ends in line " + (i + 1) + " is short", i - open <= 60
                        || !lines[open].contains("("), true);
            }
        }
    }
}
