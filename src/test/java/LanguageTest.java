import java.lang.reflect.Field;
import java.lang.reflect.Member;
import java.lang.reflect.Method;
import java.lang.reflect.Modifier;
import java.nio.file.Files;
import java.nio.file.Path;
import java.util.ArrayList;
import java.util.List;
import java.util.regex.Matcher;
import java.util.regex.Pattern;

/** What can be seen of LANGUAGE.md from the source's words and the class's face. */
public final class LanguageTest {
    private static final Checks CHECKS = new Checks();
    private static final String FACE = "NONE about area at count curve drop end feed greatest high least low never part roots slope";

    public static void main(String[] args) throws Exception {
        String source = Files.readString(Path.of("src/main/java/ShutBench.java"));
        words(source.replaceAll("(?s)/\\*.*?\\*/|//[^\n]*", "").replaceAll("\"[^\"\n]*\"|'[^'\n]+'", "0"));
        face();
        CHECKS.close("LanguageTest");
    }

    private static void words(String code) {
        String[] banned = {
            "\\b(throw|throws|try|catch|finally|synchronized|assert|import|package|protected|var|record|yield|native)\\b",
            "->", "::", "\\bstatic\\s*\\{", "Exact\\b", "\\b(float|double|Object|Class|Thread|Random|Scanner)\\b",
            "\\bSystem\\.(?!arraycopy)", "\\b(Integer|Long)\\.(MIN|MAX)_VALUE", "\\b(equals|hashCode|toString)\\b",
            "\\bMath\\.(?!min\\b|max\\b|abs\\b|floorDiv\\b|floorMod\\b)"};
        for (String word : banned) {
            Matcher found = Pattern.compile(word).matcher(code);
            CHECKS.due("there is " + word, found.find() ? 1 : 0, 0);
        }
        int classes = code.split("\\bclass\\b", -1).length - 1;
        CHECKS.due("at most twelve classes: " + classes, classes <= 12 ? 1 : 0, 1);
        Matcher method = Pattern.compile("\\n( +)[a-zA-Z\\[\\] ]*\\b\\w+\\(([^()]*)\\) \\{\\n").matcher(code);
        int methods = 0;
        while (method.find()) {
            if (method.group().matches("(?s).*\\b(if|for|while|switch)\\b.*")) {
                continue;
            }
            methods++;
            String rest = code.substring(method.end());
            int lines = rest.substring(0, rest.indexOf("\n" + method.group(1) + "}")).split("\n").length;
            CHECKS.due(method.group().trim() + " has " + lines + " lines", lines <= 60 ? 1 : 0, 1);
            CHECKS.due(method.group().trim(), method.group(2).split(",").length <= 7 ? 1 : 0, 1);
        }
        CHECKS.due("methods were found: " + methods, methods > 60 ? 1 : 0, 1);
    }

    private static void face() {
        CHECKS.due("final", Modifier.isFinal(ShutBench.class.getModifiers()) ? 1 : 0, 1);
        CHECKS.due("one constructor", ShutBench.class.getDeclaredConstructors().length, 1);
        List<Member> members = new ArrayList<>(List.of(ShutBench.class.getDeclaredMethods()));
        members.addAll(List.of(ShutBench.class.getDeclaredFields()));
        int told = 0;
        for (Member member : members) {
            boolean ofFace = FACE.matches("(.* )?" + member.getName() + "( .*)?");
            boolean isField = member instanceof Field;
            if (Modifier.isPublic(member.getModifiers())) {
                told++;
                CHECKS.due(member + " is of the face", ofFace ? 1 : 0, 1);
            } else {
                CHECKS.due(member + " is private", Modifier.isPrivate(member.getModifiers()) ? 1 : 0, 1);
                CHECKS.due(member + " bears no public name", member instanceof Method && ofFace ? 1 : 0, 0);
            }
            if (isField && Modifier.isStatic(member.getModifiers())) {
                CHECKS.due(member + " is final", Modifier.isFinal(member.getModifiers()) ? 1 : 0, 1);
            }
        }
        CHECKS.due("the whole face", told, FACE.split(" ").length);
        for (Class<?> inner : ShutBench.class.getDeclaredClasses()) {
            CHECKS.due(inner + " is static", Modifier.isStatic(inner.getModifiers()) ? 1 : 0, 1);
            for (Method method : inner.getDeclaredMethods()) {
                boolean ofFace = FACE.matches("(.* )?" + method.getName() + "( .*)?");
                CHECKS.due(method + " bears no public name", ofFace ? 1 : 0, 0);
            }
            int state = 0;
            for (Field field : inner.getDeclaredFields()) {
                boolean isStatic = Modifier.isStatic(field.getModifiers());
                state += isStatic ? 0 : 1;
                CHECKS.due(field + " is final", !isStatic || Modifier.isFinal(field.getModifiers()) ? 1 : 0, 1);
            }
            CHECKS.due(inner + " has " + state + " fields", state <= 20 ? 1 : 0, 1);
        }
    }
}
