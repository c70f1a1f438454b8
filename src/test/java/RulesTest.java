import java.lang.reflect.Constructor;
import java.lang.reflect.Field;
import java.lang.reflect.Member;
import java.lang.reflect.Method;
import java.lang.reflect.Modifier;
import java.nio.file.Files;
import java.nio.file.Path;
import java.util.ArrayList;
import java.util.List;
import java.util.TreeSet;
import java.util.regex.Matcher;
import java.util.regex.Pattern;

/** The class's face, and the rules of LANGUAGE.md that can be looked up in the class or in its source's text. */
public final class RulesTest {
    private static final Check check = new Check();

    private static final String FACE = "again(int)boolean back(int,int,int)int belief(int,int,boolean)long"
        + " both(int,int,int,boolean)long coast(int,int)int count(int)int deed(int,int,int)int"
        + " drawn(int,int,int,int)int end(int)int fault(int)int feed(int,int,int,int,int)int fits(int,int)int"
        + " free(int,int,int,int)int helps(int,int,int,int,int)int hours(int,int,int)int image(int)boolean"
        + " leaves(int,int,int,int)int light(int,int,int,int)int log(int,int)int man(int,int,int,int)int"
        + " mutiny(int,int,int,boolean)int next(int,int,boolean)long premium(int,int,int,boolean)long"
        + " rest(int,int,int)int shade(int,int)int state(int,int,int,int)int stop(int,int)int text(int,int)int"
        + " watch(int,int,int)int way(int,int,int)int";

    private static final String[] RULED_OUT = {"\\bthrow\\b", "\\btry\\b", "\\bcatch\\b", "\\bsynchronized\\b", "\\bassert\\b",
        "->", "::", "\\bimport\\b", "\\bpackage\\b", "\\bprotected\\b", "Exact\\b", "\\bhashCode\\b", "\\btoString\\b",
        "\\bRandom\\b", "\\bThread\\b", "currentTimeMillis", "nanoTime", "\\bObject\\b", "\\bdouble\\b", "\\bfloat\\b",
        "static \\{", "System\\.(?!arraycopy)", "new [A-Z]\\w*\\([^)]*\\) \\{"};

    public static void main(String[] args) throws Exception {
        face();
        List<Class<?>> classes = new ArrayList<>(List.of(IllLight.class.getDeclaredClasses()));
        for (Class<?> inside : classes) {
            check.due("static " + inside, Modifier.isStatic(inside.getModifiers()), true);
            check.due("private " + inside, Modifier.isPrivate(inside.getModifiers()), true);
        }
        classes.add(IllLight.class);
        check.due("at most twelve classes", classes.size() <= 12, true);
        for (Class<?> one : classes) {
            fields(one);
            for (Method method : one.getDeclaredMethods()) {
                check.due("parameters of " + method, method.getParameterCount() <= 7, true);
            }
        }
        source(Files.readString(Path.of(args[0])));
        check.close();
    }

    private static boolean isPrivate(Member member) {
        return Modifier.isPrivate(member.getModifiers()) || member.isSynthetic();
    }

    private static void face() {
        check.due("public and final", Modifier.isPublic(IllLight.class.getModifiers()) && Modifier.isFinal(IllLight.class.getModifiers()), true);
        TreeSet<String> open = new TreeSet<>();
        TreeSet<String> names = new TreeSet<>();
        for (Method method : IllLight.class.getDeclaredMethods()) {
            if (!isPrivate(method)) {
                StringBuilder told = new StringBuilder(method.getName()).append("(");
                for (Class<?> type : method.getParameterTypes()) {
                    told.append(told.charAt(told.length() - 1) == '(' ? "" : ",").append(type);
                }
                open.add(told.append(")").append(method.getReturnType()).toString());
                names.add(method.getName());
                check.due("public " + method, Modifier.isPublic(method.getModifiers()), true);
            }
        }
        String told = String.join(" ", open);
        check.due("the face is " + told, told.equals(FACE), true);
        for (Method method : IllLight.class.getDeclaredMethods()) {
            check.due("a private name " + method, isPrivate(method) && names.contains(method.getName()), false);
        }
        for (Field field : IllLight.class.getDeclaredFields()) {
            check.due("open field " + field, isPrivate(field), !field.getName().equals("NONE"));
        }
        Constructor<?>[] made = IllLight.class.getDeclaredConstructors();
        check.due("one constructor", made.length, 1);
        check.due("without parameters", made[0].getParameterCount(), 0);
    }

    private static void fields(Class<?> one) {
        int held = 0;
        for (Field field : one.getDeclaredFields()) {
            if (!Modifier.isStatic(field.getModifiers())) {
                held++;
                continue;
            }
            check.due("final " + field, Modifier.isFinal(field.getModifiers()), true);
            boolean plain = List.of(int.class, long.class, boolean.class, char.class, String.class,
                int[].class, long[].class, char[].class, byte[].class).contains(field.getType());
            check.due("a constant " + field, plain, true);
        }
        check.due("fields of " + one, held <= 20, true);
    }

    private static void source(String source) {
        String code = source.replaceAll("(?s)/\\*.*?\\*/", "").replaceAll("//[^\n]*", "").replaceAll("\"[^\"\n]*\"", "\"\"");
        for (String word : RULED_OUT) {
            check.due("ruled out: " + word, Pattern.compile(word).matcher(code).find(), false);
        }
        Matcher constant = Pattern.compile("private static final [\\w\\[\\]]+ ([A-Z_]+) =").matcher(code);
        while (constant.find()) {
            Matcher uses = Pattern.compile("\\b" + constant.group(1) + "\\b").matcher(code);
            check.due("it is used: " + constant.group(1), uses.results().count() > 1, true);
        }
        check.due("signs up to 127", source.chars().allMatch(sign -> sign < 128), true);
        methodLengths(source);
    }

    private static void methodLengths(String source) {
        Pattern head = Pattern.compile("^( +)[\\w\\[\\] ]+\\w\\([^;=]*\\) \\{$");
        String[] lines = source.split("\n");
        int seen = 0;
        for (int from = 0; from < lines.length; from++) {
            Matcher matcher = head.matcher(lines[from]);
            if (!matcher.find() || lines[from].matches(" +(if|for|while|switch|} else if) .*")) {
                continue;
            }
            int to = from;
            while (to < lines.length && !lines[to].equals(matcher.group(1) + "}")) {
                to++;
            }
            seen++;
            check.due("lines of " + lines[from].trim(), to - from + 1 <= 60, true);
        }
        check.due("methods are found", seen > 100, true);
    }
}
