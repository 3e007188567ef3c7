import java.lang.reflect.Constructor;
import java.lang.reflect.Field;
import java.lang.reflect.Member;
import java.lang.reflect.Method;
import java.lang.reflect.Modifier;
import java.nio.file.Files;
import java.nio.file.Path;
import java.util.Set;
import java.util.TreeSet;
import java.util.regex.Matcher;
import java.util.regex.Pattern;

/** The class has the document's face and no other, and keeps to what of LANGUAGE.md can be seen in its text. */
public final class FaceTest {
    private static final Check CHECK = new Check("FaceTest");
    private static final String[] FACE = {
        "int loss(int)", "int claimant(int)", "int wrong(int)", "int leave(int)", "int weight(int,int)",
        "int broke(int,boolean)", "int pair(int,int)", "int part(int)", "int settle(int,int)", "int reopen(int)",
        "int setting(int,int)", "int ofWrong(int,int)", "long amount(int,int)", "long credit(int,int)",
        "long unitDue(int,int)", "long due(int,int)", "long gets(int,int,int)", "int bestManner()",
        "long saves(int,int,int)", "long misses(int,int)", "int owe()", "int pay(int,int)", "int refund(int)",
        "long fair(int,int)", "long over(int,int)", "int transfers()", "int transfer(int,int)", "long given(int,int)",
        "int many(int)"};
    private static final String[] RULED_OUT = {
        "\\bthrow\\b", "\\btry\\b", "\\bcatch\\b", "\\bsynchronized\\b", "\\bassert\\b", "->", "::", "\\bimport\\b",
        "\\bpackage\\b", "Exact\\(", "\\bSystem\\.(?!arraycopy)", "\\bvar\\b", "\\bThread\\b", "\\bRandom\\b"};

    public static void main(String[] args) throws Exception {
        constants();
        document();
        face();
        insideClasses();
        text();
        CHECK.end();
    }

    private static void constants() {
        CHECK.is("UNKNOWN", SharedFault.UNKNOWN, -1);
        CHECK.is("OUTSIDE", SharedFault.OUTSIDE, -2);
        CHECK.is("STATE", SharedFault.STATE, -3);
        CHECK.is("FULL", SharedFault.FULL, -4);
        CHECK.is("NONE", SharedFault.NONE, -9);
        CHECK.is("LOST", SharedFault.LOST, Long.MIN_VALUE);
    }

    /** The lists in this test are those of the document, so that neither strays from the other. */
    private static void document() throws Exception {
        Path path = Path.of("../shared/DOC.md");
        if (!Files.isReadable(path)) {
            System.out.println("no document at " + path + ": the face is not looked up");
            return;
        }
        String face = Files.readString(path).replaceAll("(?s).*## The public face(.*?)## Terms.*", "$1");
        Set<String> told = new TreeSet<>();
        Matcher method = Pattern.compile("public (\\w+ \\w+)\\((.*)\\);").matcher(face);
        while (method.find()) {
            told.add(method.group(1) + "(" + method.group(2).replaceAll("(\\w+) \\w+", "$1").replace(", ", ",") + ")");
        }
        CHECK.holds("the document's methods are " + told, told.equals(new TreeSet<>(Set.of(FACE))));
        CHECK.holds("the document's class", face.contains("public final class SharedFault {"));
        CHECK.holds("the document's constructor", face.contains("    public SharedFault();\n"));
        CHECK.holds("the document's constants of int",
                face.contains("public static final int UNKNOWN = -1, OUTSIDE = -2, STATE = -3, FULL = -4, NONE = -9;"));
        CHECK.holds("the document's constant of long", face.contains("public static final long LOST = Long.MIN_VALUE;"));
        CHECK.is("constants", face.split("public static final").length - 1, 2);
    }

    private static String signature(Method method) {
        StringBuilder text = new StringBuilder();
        for (Class<?> type : method.getParameterTypes()) {
            text.append(text.length() == 0 ? "" : ",").append(type.getName());
        }
        return method.getReturnType().getName() + " " + method.getName() + "(" + text + ")";
    }

    private static void face() {
        Class<SharedFault> type = SharedFault.class;
        CHECK.holds("public and final", Modifier.isPublic(type.getModifiers()) && Modifier.isFinal(type.getModifiers()));
        Set<String> seen = new TreeSet<>();
        Set<String> names = new TreeSet<>();
        for (Method method : type.getDeclaredMethods()) {
            if (!Modifier.isPrivate(method.getModifiers())) {
                CHECK.holds(method + " is public, not static",
                        Modifier.isPublic(method.getModifiers()) && !Modifier.isStatic(method.getModifiers()));
                seen.add(signature(method));
                names.add(method.getName());
            }
        }
        CHECK.holds("the methods are those of the document", seen.equals(new TreeSet<>(Set.of(FACE))));
        for (Method method : type.getDeclaredMethods()) {
            if (Modifier.isPrivate(method.getModifiers())) {
                CHECK.holds(method + " has a name of its own", !names.contains(method.getName()));
            }
        }
        Constructor<?>[] made = type.getDeclaredConstructors();
        CHECK.holds("one public constructor without arguments", made.length == 1 && made[0].getParameterCount() == 0
                && Modifier.isPublic(made[0].getModifiers()));
        Set<String> visible = new TreeSet<>();
        for (Field field : type.getDeclaredFields()) {
            finalIfStatic(field);
            if (!Modifier.isPrivate(field.getModifiers())) {
                visible.add(field.getName());
            }
        }
        CHECK.holds("the constants are those of the document",
                visible.equals(Set.of("UNKNOWN", "OUTSIDE", "STATE", "FULL", "NONE", "LOST")));
    }

    private static void finalIfStatic(Member member) {
        int is = member.getModifiers();
        CHECK.holds(member + " is final if it is static", !Modifier.isStatic(is) || Modifier.isFinal(is));
    }

    private static void insideClasses() {
        Class<?>[] inside = SharedFault.class.getDeclaredClasses();
        CHECK.holds("at most twelve classes", inside.length <= 11);
        for (Class<?> type : inside) {
            CHECK.holds(type + " is static", Modifier.isStatic(type.getModifiers()));
            CHECK.holds(type + " is not public", !Modifier.isPublic(type.getModifiers()) && !Modifier.isProtected(type.getModifiers()));
            for (Field field : type.getDeclaredFields()) {
                finalIfStatic(field);
            }
            sizes(type);
        }
        sizes(SharedFault.class);
    }

    private static void sizes(Class<?> type) {
        int fields = 0;
        for (Field field : type.getDeclaredFields()) {
            fields += Modifier.isStatic(field.getModifiers()) ? 0 : 1;
        }
        CHECK.holds(type + " has at most twenty fields", fields <= 20);
        for (Method method : type.getDeclaredMethods()) {
            CHECK.holds(method + " takes at most seven", method.getParameterCount() <= 7);
        }
        for (Constructor<?> made : type.getDeclaredConstructors()) {
            CHECK.holds(made + " takes at most seven", made.getParameterCount() <= 7);
        }
    }

    private static void text() throws Exception {
        String text = Files.readString(Path.of("src/main/java/SharedFault.java"));
        String code = text.replaceAll("(?s)/\\*.*?\\*/", "").replaceAll("//[^\n]*", "");
        for (String pattern : RULED_OUT) {
            Matcher matcher = Pattern.compile(pattern).matcher(code);
            CHECK.holds("no " + pattern + " in the program", !matcher.find());
        }
    }
}
