import java.io.IOException;
import java.lang.reflect.Constructor;
import java.lang.reflect.Field;
import java.lang.reflect.Method;
import java.lang.reflect.Modifier;
import java.nio.file.Files;
import java.nio.file.Path;
import java.util.Set;
import java.util.TreeSet;
import java.util.regex.Matcher;
import java.util.regex.Pattern;

/** The face of the document, and those rules of LANGUAGE.md that reflection or the text can show. */
public final class RulesTest {
    private static final Due DUE = new Due();
    private static final String FACE = "int about(int,int) int best(int) int candidates(int) int cost(int,int)"
            + " int count(int) int fits(int,int,int) int from(int) int hole(int,int,int) int home(int,int)"
            + " int imprint(int,int) int leaf(int,int,int,int) int life(int,int) int map(int,int)"
            + " int mould(int,int) int paper(int,int) int price(int,int) int quarrel(int) int rivals(int)"
            + " int see(int,int,int) int set(int,int) int shift(int,int,int) int span(int,int)"
            + " int state(int,int,int) long trace()";
    private static final String RULED_OUT = "throw|throws|try|catch|synchronized|assert|import|package|volatile"
            + "|native|transient|instanceof|lambda|toString|hashCode|System|Object|record|::|->";

    public static void main(String[] args) throws IOException {
        theFace();
        theConstants();
        noOtherMembers();
        classesInside();
        theText();
        DUE.end();
    }

    private static String told(Method method) {
        StringBuilder text = new StringBuilder(method.getReturnType() + " " + method.getName() + "(");
        String comma = "";
        for (Class<?> type : method.getParameterTypes()) {
            text.append(comma).append(type);
            comma = ",";
        }
        return text.append(")").toString();
    }

    private static void theFace() {
        Set<String> open = new TreeSet<>();
        for (Method method : PlateRoom.class.getDeclaredMethods()) {
            if (!Modifier.isPrivate(method.getModifiers())) {
                open.add(told(method));
                yes("public: " + method, Modifier.isPublic(method.getModifiers()));
                yes("not static: " + method, !Modifier.isStatic(method.getModifiers()));
            }
        }
        Set<String> due = new TreeSet<>(Set.of(FACE.split(" (?=int |long )")));
        yes("the face " + open, open.equals(due));
        Constructor<?>[] made = PlateRoom.class.getDeclaredConstructors();
        yes("one public constructor without arguments", made.length == 1 && made[0].getParameterCount() == 0
                && Modifier.isPublic(made[0].getModifiers()));
        int how = PlateRoom.class.getModifiers();
        yes("a public final class", Modifier.isPublic(how) && Modifier.isFinal(how));
    }

    private static void theConstants() {
        DUE.is("BAD", PlateRoom.BAD, -1);
        DUE.is("STATE", PlateRoom.STATE, -2);
        DUE.is("FULL", PlateRoom.FULL, -3);
        DUE.is("NONE", PlateRoom.NONE, -9);
    }

    private static void noOtherMembers() {
        Set<String> constants = Set.of("BAD", "STATE", "FULL", "NONE");
        for (Field field : PlateRoom.class.getDeclaredFields()) {
            int how = field.getModifiers();
            yes("private, or a constant of the document: " + field,
                    Modifier.isPrivate(how) || (Modifier.isPublic(how) && constants.contains(field.getName())));
        }
    }

    private static void classesInside() {
        Set<String> names = new TreeSet<>();
        for (Method method : PlateRoom.class.getDeclaredMethods()) {
            if (Modifier.isPublic(method.getModifiers())) {
                names.add(method.getName());
            }
        }
        for (Method method : PlateRoom.class.getDeclaredMethods()) {
            yes("no private method with the name of a public one: " + method,
                    Modifier.isPublic(method.getModifiers()) || !names.contains(method.getName()));
        }
        Class<?>[] inside = PlateRoom.class.getDeclaredClasses();
        yes("at most twelve classes", inside.length < 12);
        fewFields(PlateRoom.class);
        for (Class<?> one : inside) {
            yes("static, not public: " + one,
                    Modifier.isStatic(one.getModifiers()) && !Modifier.isPublic(one.getModifiers()));
            fewFields(one);
            for (Method method : one.getDeclaredMethods()) {
                yes("at most seven parameters: " + method, method.getParameterCount() <= 7);
                yes("no name of a public method: " + method, !names.contains(method.getName()));
            }
        }
    }

    private static void fewFields(Class<?> one) {
        int fields = 0;
        for (Field field : one.getDeclaredFields()) {
            fields += Modifier.isStatic(field.getModifiers()) ? 0 : 1;
            yes("static fields are final: " + field,
                    !Modifier.isStatic(field.getModifiers()) || Modifier.isFinal(field.getModifiers()));
        }
        yes("at most twenty fields: " + one, fields <= 20);
    }

    private static void theText() throws IOException {
        String text = Files.readString(Path.of("src/main/java/PlateRoom.java"));
        String code = text.replaceAll("(?s)/\\*.*?\\*/", "").replaceAll("//.*", "");
        Matcher matcher = Pattern.compile("(?<![A-Za-z])(" + RULED_OUT + ")(?![A-Za-z])|->|::").matcher(code);
        while (matcher.find()) {
            yes("not in the text: " + matcher.group(), false);
        }
        yes("signs 1 to 127 alone", text.chars().allMatch(c -> c >= 1 && c <= 127));
    }

    private static void yes(String what, boolean holds) {
        DUE.is(what, holds ? 1 : 0, 1);
    }
}
