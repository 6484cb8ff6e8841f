import java.lang.reflect.Constructor;
import java.lang.reflect.Field;
import java.lang.reflect.Method;
import java.lang.reflect.Modifier;
import java.nio.charset.StandardCharsets;
import java.nio.file.Files;
import java.nio.file.Path;
import java.util.ArrayList;
import java.util.Arrays;
import java.util.List;
import java.util.Set;
import java.util.TreeSet;

/** The public face is the document's, and the source keeps to what LANGUAGE.md lets a text search see. */
public final class FaceTests {
    private static final String[] FACE = {
        "int setSeats(int,int) IOOBE IAE UOE",
        "int setStaff(int) IAE UOE",
        "int setRoom(int) IAE UOE",
        "int addProduction(int,int,int,int) IAE ISE",
        "int production(int,int) IOOBE IAE",
        "int perform(int,int,int) IOOBE IAE ISE UOE",
        "int cancel(int) IOOBE UOE",
        "int move(int,int) IOOBE IAE UOE",
        "int performance(int,int) IOOBE IAE",
        "int on(int,int) IOOBE IAE NSEE",
        "int nextDate(int,int,int) IOOBE IAE NSEE",
        "int bestMove(int) IOOBE NSEE",
        "int load(int) IAE",
        "int peak()",
        "int sell(int,int) IOOBE IAE UOE",
        "int refund(int,int) IOOBE IAE UOE",
        "int request(int,int,int) IOOBE IAE UOE",
        "int waiting(int,int,boolean) IOOBE NSEE",
        "int seats(int,int) IAE",
        "int seatsAgain(int,int) IAE",
        "int subscribe(int) IAE ISE",
        "int hold(int,int) IOOBE UOE",
        "int release(int,int) IOOBE UOE",
        "int exchange(int,int,int) IOOBE UOE",
        "int subscription(int,int) IOOBE IAE",
        "float partner(int) IOOBE",
        "double fullness(int) IOOBE AE",
        "int reason(boolean) NSEE",
        "int account(int) IAE",
        "int append(char) IAE ISE",
        "int read() IAE ISE",
        "int errorPosition() NSEE",
        "int undo() NSEE",
        "int save()",
        "int restore() ISE",
    };

    private static final String[] FORBIDDEN = {
        "package ", "->", "::", "try {", "catch (", "finally", "synchronized", "assert ", "protected ",
        "Exact(", "System.out", "static {", "instanceof Object", "\" +", "+ \"", "var ",
    };

    private FaceTests() {
    }

    public static void main(String[] args) throws Exception {
        Checks.group("face", FaceTests::checkMembers);
        String source = Files.readString(Path.of("src/main/java/TheatreSeasons.java"), StandardCharsets.UTF_8);
        Checks.group("language", () -> checkSource(source));
        Checks.end();
    }

    private static void checkMembers() {
        Class<TheatreSeasons> face = TheatreSeasons.class;
        Checks.is(Modifier.PUBLIC | Modifier.FINAL, face.getModifiers());
        Set<String> names = new TreeSet<>();
        Set<String> got = new TreeSet<>();
        for (Method method : face.getDeclaredMethods()) {
            if (!Modifier.isPrivate(method.getModifiers()) && !method.isSynthetic()) {
                names.add(method.getName());
                got.add(signature(method));
                Checks.is(Modifier.PUBLIC, method.getModifiers());
            }
        }
        Set<String> due = new TreeSet<>(Arrays.asList(FACE));
        Checks.tell(got.equals(due), "the face is " + got);
        for (Method method : face.getDeclaredMethods()) {
            if (Modifier.isPrivate(method.getModifiers())) {
                Checks.tell(!names.contains(method.getName()), "a private " + method.getName());
            }
        }
        checkRest(face);
    }

    private static void checkRest(Class<?> face) {
        Constructor<?>[] constructors = face.getDeclaredConstructors();
        Checks.is(1, constructors.length);
        Checks.is(Modifier.PUBLIC, constructors[0].getModifiers());
        Checks.is(0, constructors[0].getParameterCount());
        for (Field field : face.getDeclaredFields()) {
            Checks.tell(Modifier.isPrivate(field.getModifiers()), "a field to be seen: " + field.getName());
        }
        Class<?>[] inside = face.getDeclaredClasses();
        Checks.tell(inside.length <= 12, "too many classes");
        for (Class<?> each : inside) {
            int modifiers = each.getModifiers();
            Checks.tell(Modifier.isPrivate(modifiers) && Modifier.isStatic(modifiers), each + " is not private static");
            int fields = 0;
            for (Field field : each.getDeclaredFields()) {
                fields += Modifier.isStatic(field.getModifiers()) ? 0 : 1;
            }
            Checks.tell(fields <= 20, each + " has too many fields");
        }
    }

    private static String signature(Method method) {
        List<String> parameters = new ArrayList<>();
        for (Class<?> parameter : method.getParameterTypes()) {
            parameters.add(parameter.getSimpleName());
        }
        StringBuilder text = new StringBuilder(method.getReturnType().getSimpleName());
        text.append(' ').append(method.getName()).append('(').append(String.join(",", parameters)).append(')');
        for (Class<?> exception : method.getExceptionTypes()) {
            text.append(' ').append(exception.getSimpleName().replaceAll("[a-z]", ""));
        }
        return text.toString();
    }

    private static void checkSource(String source) {
        for (String word : FORBIDDEN) {
            Checks.tell(!source.contains(word), "the source has " + word);
        }
        Checks.is(source.length(), source.chars().filter(sign -> sign < 127).count());
        Checks.is(1, source.lines().filter(line -> line.startsWith("import ")).count());
        Checks.tell(source.startsWith("import java.util.NoSuchElementException;"), "another import");
    }
}
