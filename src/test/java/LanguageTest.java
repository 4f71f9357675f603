import java.lang.reflect.Field;
import java.lang.reflect.Member;
import java.lang.reflect.Method;
import java.lang.reflect.Modifier;
import java.nio.file.Files;
import java.nio.file.Path;
import java.util.ArrayList;
import java.util.List;
import java.util.Set;
import java.util.TreeSet;
import java.util.regex.Matcher;
import java.util.regex.Pattern;

/** The face of the document, and those rules of LANGUAGE.md that can be seen from outside. */
public final class LanguageTest {
    private static final Checks c = new Checks();

    public static void main(String[] args) throws Exception {
        face();
        sizes(SuretyRoll.class);
        for (Class<?> inside : SuretyRoll.class.getDeclaredClasses()) {
            sizes(inside);
        }
        source(Files.readString(Path.of(args[0])));
        c.finish();
    }

    private static void face() {
        c.part("face");
        Set<String> names = new TreeSet<>();
        List<Member> members = new ArrayList<>();
        members.addAll(List.of(SuretyRoll.class.getDeclaredMethods()));
        members.addAll(List.of(SuretyRoll.class.getDeclaredFields()));
        for (Member m : members) {
            boolean open = Modifier.isPublic(m.getModifiers());
            if (open) {
                names.add(m.getName());
            } else if (!Modifier.isPrivate(m.getModifiers()) && !m.isSynthetic()) {
                c.fail("neither public nor private: " + m.getName());
            }
        }
        String want = "[BAD, FULL, NO, NONE, STATE, ask, back, balance, bears, burden, chain, clear, count, debt, end, "
            + "has, keep, lose, papers, pay, person, price, release, restore, rounds, standing, trace, type, worst, worth]";
        c.due("the public names are " + names, names.toString().equals(want) ? 1 : 0, 1);
        for (Class<?> inside : SuretyRoll.class.getDeclaredClasses()) {
            c.due("static: " + inside.getName(), Modifier.isStatic(inside.getModifiers()) ? 1 : 0, 1);
            for (Method m : inside.getDeclaredMethods()) {
                c.due("a name of the face inside: " + m.getName(), names.contains(m.getName()) ? 1 : 0, 0);
            }
        }
        c.due("BAD", SuretyRoll.BAD, -1);
        c.due("STATE", SuretyRoll.STATE, -2);
        c.due("FULL", SuretyRoll.FULL, -3);
        c.due("NONE", SuretyRoll.NONE, -9);
        c.due("NO", SuretyRoll.NO, -1000000);
    }

    /** Rules 3, 5 and 11, as far as a class shows them. */
    private static void sizes(Class<?> type) {
        c.part(type.getName());
        int own = 0;
        for (Field f : type.getDeclaredFields()) {
            if (Modifier.isStatic(f.getModifiers())) {
                c.due("final: " + f.getName(), Modifier.isFinal(f.getModifiers()) ? 1 : 0, 1);
            } else {
                own++;
            }
            c.due("one dimension: " + f.getName(), f.getType().getName().startsWith("[[") ? 1 : 0, 0);
        }
        c.due("twenty fields at most, of " + own, own <= 20 ? 1 : 0, 1);
        for (Method m : type.getDeclaredMethods()) {
            c.due("seven parameters at most: " + m.getName(), m.getParameterCount() <= 7 ? 1 : 0, 1);
        }
    }

    private static void source(String text) {
        c.part("source");
        String code = text.replaceAll("(?s)/\\*.*?\\*/", "").replaceAll("//[^\n]*", "").replaceAll("\"[^\"]*\"", "\"\"");
        for (String word : "throw try catch synchronized assert lambda float double import\\s+(?!java\\.util\\.Arrays)".split(" ")) {
            c.due("uses of " + word, count(code, "\\b" + word + "\\b"), 0);
        }
        c.due("lambdas and method references", count(code, "->|::"), 0);
        c.due("uses of Arrays but for fill", count(code, "\\bArrays\\.(?!fill\\()"), 0);
        c.due("twelve classes at most", count(code, "\\bclass\\b") > 12 ? 1 : 0, 0);
        c.due("a method of 60 lines at most", longestMethod(code) > 60 ? 1 : 0, 0);
        // what is made is made once, with the object: in fields, and in its constructor
        int made = count(code, "\\bnew\\b");
        int inFields = count(code, "(?m)^ +(private )?(final )?[\\w\\[\\]]+ \\w+ = new\\b");
        int inConstructor = count(code.substring(code.indexOf("public SuretyRoll()"), code.indexOf("public int type")), "\\bnew\\b");
        c.due("things made in calls", made - inFields - inConstructor, 0);
    }

    private static int count(String code, String pattern) {
        Matcher m = Pattern.compile(pattern).matcher(code);
        int n = 0;
        while (m.find()) {
            n++;
        }
        return n;
    }

    private static int longestMethod(String code) {
        int longest = 0;
        int from = -1;
        String[] lines = code.split("\n");
        for (int i = 0; i < lines.length; i++) {
            if (lines[i].matches("( {4}| {8})\\S.*\\) \\{")) {
                from = i;
            }
            if (lines[i].matches("( {4}| {8})\\}") && from >= 0) {
                longest = Math.max(longest, i - from + 1);
                from = -1;
            }
        }
        return longest;
    }
}
