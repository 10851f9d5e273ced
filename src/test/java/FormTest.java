import java.lang.reflect.Constructor;
import java.lang.reflect.Field;
import java.lang.reflect.Method;
import java.lang.reflect.Modifier;
import java.nio.charset.StandardCharsets;
import java.nio.file.Files;
import java.nio.file.Path;
import java.util.Arrays;
import java.util.TreeSet;
import java.util.regex.Matcher;
import java.util.regex.Pattern;

/** The public face of the document, and what of ../shared/LANGUAGE.md can be seen from the text of the class. */
public final class FormTest {
    private static final Check CHECK = new Check("FormTest");
    private static final String[] FACE = {
        "int guard(int)", "int rate(int,int)", "int caution(int,int)", "int visitor(int,boolean)", "int forget(int)",
        "int visitorOf(int,int)", "int guardOf(int,int)", "float margin(int,int,boolean)", "boolean letsIn(int,int)",
        "int weightBits(int,int)", "int counted(int,int)", "float mean(int,int)", "int strongest(int,int)",
        "int closest(int)", "float knows(int,int)", "int teach(int,int)", "int day(int)", "int days(int,int)",
        "int wouldCalm(int,int)", "boolean wouldPush(int,int)", "int votes(int)", "boolean isVotedIn(int)",
        "int agree(int,int)", "int mistaken()", "int ranked(int)", "int line(int)", "int guardLine(int)",
        "char character(int)", "int append(char)", "int run()", "int errorPosition()", "int refusal(boolean)",
        "int account(int)", "boolean isWell()", "double meanBadges()", "int undo()", "int save()", "int restore()"};
    /** Rules 2, 4, 6, 10 and 13, as far as single words tell of them. */
    private static final String[] RULED_OUT = {"->", "::", "\\bfinally\\b", "\\bassert\\b", "\\bsynchronized\\b",
        "\\bcatch\\b", "\\bpackage\\b", "\\bFloat\\.", "\\bDouble\\.", "\\bMath\\.\\w+Exact", "\\bSystem\\.(?!arraycopy\\b)",
        "\\bString\\.", "\\bCharacter\\.", "\\bstatic \\{", "\\bequals\\(Object", "\\bhashCode\\b", "\\btoString\\(\\) \\{",
        "\\bstatic final (float|double)\\b", "\\+ \"", "\" \\+", "\\bRandom\\b", "\\bThread\\b", "\\bwhile \\(true\\)"};

    public static void main(String[] args) throws Exception {
        face();
        members();
        words(new String(Files.readAllBytes(Path.of(args[0])), StandardCharsets.UTF_8));
        CHECK.end();
    }

    private static String form(Method method) {
        StringBuilder all = new StringBuilder(method.getReturnType().getSimpleName());
        all.append(' ').append(method.getName()).append('(');
        for (Class<?> type : method.getParameterTypes()) {
            all.append(all.charAt(all.length() - 1) == '(' ? "" : ",").append(type.getSimpleName());
        }
        return all.append(')').toString();
    }

    private static void face() {
        TreeSet<String> due = new TreeSet<>(Arrays.asList(FACE));
        TreeSet<String> got = new TreeSet<>();
        for (Method method : GateGuards.class.getDeclaredMethods()) {
            if (!Modifier.isPrivate(method.getModifiers())) {
                CHECK.due("public: " + method, Modifier.isPublic(method.getModifiers()), true);
                CHECK.due("of objects: " + method, Modifier.isStatic(method.getModifiers()), false);
                got.add(form(method));
            }
        }
        CHECK.due("the face", got, due);
        CHECK.due("final", Modifier.isFinal(GateGuards.class.getModifiers()), true);
        CHECK.due("public", Modifier.isPublic(GateGuards.class.getModifiers()), true);
        Constructor<?>[] constructors = GateGuards.class.getDeclaredConstructors();
        CHECK.due("one constructor", constructors.length, 1);
        CHECK.due("without parameters", constructors[0].getParameterCount(), 0);
        CHECK.due("that is public", Modifier.isPublic(constructors[0].getModifiers()), true);
    }

    private static void members() {
        TreeSet<String> names = new TreeSet<>();
        for (String method : FACE) {
            names.add(method.substring(method.indexOf(' ') + 1, method.indexOf('(')));
        }
        fields(GateGuards.class);
        privateNames(GateGuards.class, names);
        Class<?>[] inner = GateGuards.class.getDeclaredClasses();
        CHECK.due("at most twelve classes", inner.length <= 11, true);
        for (Class<?> one : inner) {
            CHECK.due("static: " + one, Modifier.isStatic(one.getModifiers()), true);
            CHECK.due("not public: " + one, Modifier.isPublic(one.getModifiers()), false);
            fields(one);
            privateNames(one, names);
        }
    }

    private static void privateNames(Class<?> one, TreeSet<String> names) {
        for (Method method : one.getDeclaredMethods()) {
            CHECK.due("at most seven parameters: " + method, method.getParameterCount() <= 7, true);
            if (!Modifier.isPublic(method.getModifiers())) {
                CHECK.due("no name of the face: " + method, names.contains(method.getName()), false);
            }
        }
    }

    private static void fields(Class<?> one) {
        int count = 0;
        for (Field field : one.getDeclaredFields()) {
            if (Modifier.isStatic(field.getModifiers())) {
                CHECK.due("a constant: " + field, Modifier.isFinal(field.getModifiers()), true);
                CHECK.due("of a type that constants have: " + field, field.getType() == int.class, true);
            } else {
                count++;
            }
            if (one == GateGuards.class) {
                CHECK.due("private: " + field, Modifier.isPrivate(field.getModifiers()), true);
            }
        }
        CHECK.due("at most twenty fields: " + one, count <= 20, true);
    }

    private static void words(String source) {
        String code = source.replaceAll("(?s)/\\*.*?\\*/", "").replaceAll("//[^\n]*", "");
        for (String word : RULED_OUT) {
            Matcher matcher = Pattern.compile(word).matcher(code);
            CHECK.due("ruled out: " + word, matcher.find(), false);
        }
        Matcher imports = Pattern.compile("(?m)^import (.*);$").matcher(code);
        while (imports.find()) {
            CHECK.due("import", imports.group(1), "java.util.NoSuchElementException");
        }
        Matcher thrown = Pattern.compile("throw (?!new \\w+\\(\"[^\"]*\"\\);)").matcher(code);
        CHECK.due("each throw makes an exception with a written text", thrown.find(), false);
        boolean isPlain = code.chars().allMatch(c -> c < 128);
        CHECK.due("plain signs alone", isPlain, true);
        int longest = 0;
        int start = 0;
        String[] lines = source.split("\n");
        for (int i = 0; i < lines.length; i++) {
            if (lines[i].matches("(    |        )[a-zA-Z].*\\{$") && !lines[i].contains(" class ")) {
                start = i;
            } else if (lines[i].matches("(    |        )\\}")) {
                longest = Math.max(longest, i - start + 1);
            }
        }
        CHECK.due("no method has over sixty lines", longest <= 60, true);
    }
}
