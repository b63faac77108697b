import java.io.IOException;
import java.lang.reflect.Constructor;
import java.lang.reflect.Field;
import java.lang.reflect.Member;
import java.lang.reflect.Method;
import java.lang.reflect.Modifier;
import java.nio.file.Files;
import java.nio.file.Path;
import java.util.ArrayList;
import java.util.Arrays;
import java.util.HashSet;
import java.util.List;
import java.util.Map;
import java.util.Set;
import java.util.TreeMap;
import java.util.regex.Matcher;
import java.util.regex.Pattern;

/** The public face, and those rules of LANGUAGE.md that can be seen by reflection or in the text. */
public final class FaceTest {
    private static final Check CHECK = new Check("FaceTest");
    private static final Path SOURCE = Path.of("src/main/java/TuneWords.java");

    /** Each method with how many ints it takes. */
    private static final Map<String, Integer> METHODS = new TreeMap<>();

    static {
        String face = "say 1 wipe 0 fault 1 line 1 tune 1 rule 2 syllable 3 note 3 cost 2 least 3 ways 3 sung 4 "
                + "verse 1 best 1 turned 3 anew 3 image 1 restore 1 count 1";
        String[] parts = face.split(" ");
        for (int at = 0; at < parts.length; at += 2) {
            METHODS.put(parts[at], Integer.valueOf(parts[at + 1]));
        }
    }

    public static void main(String[] args) throws IOException {
        constants();
        methods();
        classesInside();
        sourceText();
        CHECK.end();
    }

    private static void constants() {
        CHECK.due("UNKNOWN", TuneWords.UNKNOWN, -1);
        CHECK.due("OUTSIDE", TuneWords.OUTSIDE, -2);
        CHECK.due("STATE", TuneWords.STATE, -3);
        CHECK.due("FULL", TuneWords.FULL, -4);
        CHECK.due("NO", TuneWords.NO, -5);
        CHECK.due("NONE", TuneWords.NONE, -6);
        CHECK.due("FAULT", TuneWords.FAULT, -7);
        Set<String> open = new HashSet<>();
        for (Field field : TuneWords.class.getDeclaredFields()) {
            if (!Modifier.isPrivate(field.getModifiers())) {
                open.add(field.getName());
                CHECK.holds(field + " is a public constant", field.toString().startsWith("public static final int "));
            }
        }
        CHECK.holds("these constants and no others are open: " + open,
                open.equals(Set.of("UNKNOWN", "OUTSIDE", "STATE", "FULL", "NO", "NONE", "FAULT")));
    }

    private static void methods() {
        CHECK.holds("the class is public and final",
                TuneWords.class.getModifiers() == (Modifier.PUBLIC | Modifier.FINAL));
        Constructor<?>[] constructors = TuneWords.class.getDeclaredConstructors();
        CHECK.holds("there is one constructor, public, without parameters", constructors.length == 1
                && constructors[0].getParameterCount() == 0 && Modifier.isPublic(constructors[0].getModifiers()));
        Map<String, Integer> open = new TreeMap<>();
        for (Method method : TuneWords.class.getDeclaredMethods()) {
            if (method.isSynthetic()) {
                continue;
            }
            if (Modifier.isPrivate(method.getModifiers())) {
                CHECK.holds(method.getName() + " is no name of the face", !METHODS.containsKey(method.getName()));
                continue;
            }
            open.put(method.getName(), method.getParameterCount());
            CHECK.holds(method + " is public", method.getModifiers() == Modifier.PUBLIC);
            CHECK.holds(method + " has ints alone", method.getReturnType() == int.class
                    && Arrays.stream(method.getParameterTypes()).allMatch(type -> type == int.class));
        }
        CHECK.holds("the methods are those of the face: " + open, open.equals(METHODS));
    }

    private static void classesInside() {
        Class<?>[] inside = TuneWords.class.getDeclaredClasses();
        CHECK.holds("there are at most twelve classes", inside.length < 12);
        List<Class<?>> all = new ArrayList<>(Arrays.asList(inside));
        all.add(TuneWords.class);
        for (Class<?> one : all) {
            int flags = one.getModifiers();
            CHECK.holds(one + " is static, and not open", one == TuneWords.class || Modifier.isStatic(flags)
                    && !Modifier.isPublic(flags) && !Modifier.isProtected(flags));
            long fields = Arrays.stream(one.getDeclaredFields()).filter(field -> !isStatic(field)).count();
            CHECK.holds(one + " has at most twenty fields", fields <= 20);
            for (Field field : one.getDeclaredFields()) {
                CHECK.holds(field + " is final, if it is static", !isStatic(field) || Modifier.isFinal(field.getModifiers()));
            }
            for (Method method : one.getDeclaredMethods()) {
                CHECK.holds(method + " takes at most seven", method.getParameterCount() <= 7);
            }
        }
    }

    private static boolean isStatic(Member member) {
        return Modifier.isStatic(member.getModifiers());
    }

    private static void sourceText() throws IOException {
        String whole = Files.readString(SOURCE);
        CHECK.holds("its signs are plain", whole.chars().allMatch(sign -> sign == '\n' || sign >= 32 && sign < 127));
        String code = whole.replaceAll("(?s)/\\*.*?\\*/", "").replaceAll("//[^\n]*", "");
        Matcher word = Pattern.compile("\\b(throw|throws|try|catch|synchronized|assert|package|import|native|"
                + "volatile|transient|Thread|Random|Exact|nanoTime|currentTimeMillis|hashCode|toString|"
                + "float|double|Object|var)\\b|->|::|\\w+Exact\\b|\"").matcher(code);
        while (word.find()) {
            CHECK.holds("it goes without " + word.group(), false);
        }
        Set<String> library = Set.of("Math.max", "Math.min", "Math.abs", "System.arraycopy");
        Matcher used = Pattern.compile("\\b(Math|System|Arrays|Integer|Long|String|StringBuilder)\\.\\w+").matcher(code);
        while (used.find()) {
            CHECK.holds(used.group() + " is of the library that is used", library.contains(used.group()));
        }
        CHECK.holds("methods stay short", longestMethod(code) <= 60);
    }

    /** Methods stand between lines that end with an opening brace and closing ones of the same depth. */
    private static int longestMethod(String code) {
        int longest = 0;
        Matcher head = Pattern.compile("(?m)^( +)(?!.*\\bclass\\b)[\\w\\[\\] ]+\\([^;{]*\\) \\{$").matcher(code);
        while (head.find()) {
            int end = code.indexOf("\n" + head.group(1) + "}", head.end());
            longest = Math.max(longest, code.substring(head.start(), end).split("\n").length + 1);
        }
        CHECK.holds("methods are found", longest > 20);
        return longest;
    }
}
