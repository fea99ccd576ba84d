import java.nio.charset.StandardCharsets;
import java.nio.file.Files;
import java.nio.file.Paths;
import java.util.ArrayList;
import java.util.Arrays;
import java.util.List;
import java.util.TreeSet;
import java.util.regex.Matcher;
import java.util.regex.Pattern;

/** What of ../shared/LANGUAGE.md can be seen in the text of the class and in its members. */
public final class LanguageTest {
    private static final Check CHECK = new Check();

    public static void main(String[] args) throws Exception {
        String text = new String(Files.readAllBytes(Paths.get("src/main/java/HymnLamps.java")), StandardCharsets.ISO_8859_1);
        String code = text.replaceAll("(?s)/\\*.*?\\*/", "").replaceAll("//[^\n]*", "");
        String bare = code.replaceAll("\"[^\"\n]*\"", "\"\"").replaceAll("'(\\\\.|[^'])'", "' '");
        words(bare);
        face();
        methods(bare);
        classes(bare);
        for (int k = 0; k < text.length(); k++) {
            if (text.charAt(k) > 126) {
                CHECK.due("sign at " + k, text.charAt(k), ' ');
            }
        }
        CHECK.done();
    }

    private static void words(String bare) {
        String[] ruledOut = {"throw", "throws", "try", "catch", "finally", "synchronized", "assert", "import", "package",
            "instanceof", "float", "double", "enum", "goto", "native", "volatile", "transient", "protected", "var"};
        for (String word : ruledOut) {
            CHECK.due("the word " + word, Pattern.compile("\\b" + word + "\\b").matcher(bare).find(), false);
        }
        for (String sign : new String[] {"->", "::", "@", "\" +", "+ \""}) {
            CHECK.due("the sign " + sign, bare.contains(sign), false);
        }
        TreeSet<String> library = new TreeSet<>();
        Matcher m = Pattern.compile("\\b([A-Z]\\w*)\\.(\\w+)").matcher(bare);
        while (m.find()) {
            if (!m.group(1).equals("Reader")) {
                library.add(m.group(1) + "." + m.group(2));
            }
        }
        library.removeAll(Arrays.asList("ACROSS.length", "Integer.bitCount", "Long.bitCount", "Math.floorDiv", "Math.max", "Math.min"));
        CHECK.due("functions of the library that are not listed: " + library, library.size(), 0);
    }

    /** The public members are those of the document, and no other member bears the name of one. */
    private static void face() {
        List<String> want = Arrays.asList("feed", "end", "text", "fault", "ground", "letter", "person", "word", "hymn", "where",
            "lit", "clash", "clashes", "still", "read", "far", "nearest", "said", "between", "danger", "least", "soon", "way",
            "steps", "paint", "missed", "alike", "teach", "lamp", "learn", "undo", "ask", "image", "octet", "on");
        List<String> got = new ArrayList<>();
        for (java.lang.reflect.Method method : HymnLamps.class.getDeclaredMethods()) {
            int access = method.getModifiers();
            if (java.lang.reflect.Modifier.isPublic(access)) {
                got.add(method.getName());
            } else {
                CHECK.due(method + " is private", java.lang.reflect.Modifier.isPrivate(access), true);
                CHECK.due(method + " has a name of its own", want.contains(method.getName()), false);
            }
        }
        CHECK.due("public methods " + got, got.size(), want.size());
        CHECK.due("all of the face", got.containsAll(want), true);
        CHECK.due("public constructors", HymnLamps.class.getConstructors().length, 1);
        CHECK.due("public fields", HymnLamps.class.getFields().length, 2);
        Class<?>[] inner = HymnLamps.class.getDeclaredClasses();
        CHECK.due("at most twelve classes", inner.length + 1 <= 12, true);
        for (Class<?> each : inner) {
            CHECK.due(each + " is static", java.lang.reflect.Modifier.isStatic(each.getModifiers()), true);
            for (java.lang.reflect.Method method : each.getDeclaredMethods()) {
                CHECK.due(method + " has a name of its own", want.contains(method.getName()), false);
            }
        }
    }

    private static void methods(String bare) {
        Matcher m = Pattern.compile("(?m)^( +)[\\w\\[\\] ]+\\(([^)]*)\\) \\{$").matcher(bare);
        while (m.find()) {
            if (m.group().trim().matches("(if|for|while|switch|else|\\}).*")) {
                continue;
            }
            int stop = bare.indexOf("\n" + m.group(1) + "}\n", m.start());
            int lines = bare.substring(m.start(), stop).split("\n").length;
            CHECK.due(m.group().trim() + " has " + lines + " lines", lines <= 60, true);
            CHECK.due(m.group().trim() + " takes few", m.group(2).split(",").length <= 7, true);
        }
    }

    private static void classes(String bare) {
        for (Class<?> each : HymnLamps.class.getDeclaredClasses()) {
            fields(each);
        }
        fields(HymnLamps.class);
        CHECK.due("loops without a bound", Pattern.compile("(while|for) *\\((true|;;)").matcher(bare).find(), false);
    }

    private static void fields(Class<?> each) {
        int own = 0;
        for (java.lang.reflect.Field field : each.getDeclaredFields()) {
            if (java.lang.reflect.Modifier.isStatic(field.getModifiers())) {
                CHECK.due(field + " is final", java.lang.reflect.Modifier.isFinal(field.getModifiers()), true);
            } else {
                own++;
            }
        }
        CHECK.due(each + " has " + own + " fields", own <= 20, true);
    }
}
