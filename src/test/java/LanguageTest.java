import com.sun.management.ThreadMXBean;
import java.io.IOException;
import java.lang.management.ManagementFactory;
import java.lang.reflect.Constructor;
import java.lang.reflect.Field;
import java.lang.reflect.Method;
import java.lang.reflect.Modifier;
import java.nio.file.Files;
import java.nio.file.Path;
import java.util.ArrayList;
import java.util.List;
import java.util.Set;
import java.util.TreeSet;
import java.util.regex.Matcher;
import java.util.regex.Pattern;

/** The face of the class, and what of the rules of LANGUAGE.md can be seen from outside. */
public final class LanguageTest {
    private static final Set<String> FACE = Set.of(
        "int come(int,int)", "int go(int)", "int want(int,int)", "int life(int,int)", "int circle(int)",
        "int lot(int)", "int barter(int,int)", "int call()", "int day()", "int append(int)", "int clear()",
        "int fault(int)", "int traders()", "int days()", "int why(int)", "int trader(int,int)", "int can(int,int)",
        "int whyNot(int,int)", "int most(int)", "int kind(int,int)", "int count(int)", "double freshness()",
        "int ifCircle(int)", "int ifDays(int,int)", "int bestWant(int)", "int undo()", "int save()", "int restore()");
    private static final Set<String> CONSTANTS =
        Set.of("INVALID_ARGUMENT", "NOT_POSSIBLE", "LIMIT_REACHED", "NOT_FOUND");
    private static final String[] RULED_OUT = {
        "->", "::", "\\btry\\b", "\\bcatch\\b", "\\bfinally\\b", "\\bthrow\\b", "\\bsynchronized\\b", "\\bassert\\b",
        "\\bpackage\\b", "\\bequals\\b", "\\bhashCode\\b", "\\btoString\\b", "Exact\\b", "\\bObject\\b", "\\bprintln\\b"};
    private static final Set<String> LIBRARY = Set.of(
        "System.arraycopy(java.lang.Object,int,java.lang.Object,int,int)", "Arrays.fill(int[],int)",
        "Math.max(int,int)", "Math.min(int,int)", "Integer.bitCount(int)", "Object.new");
    /** Each taker is one level, so that there are at most 8. */
    private static final Set<String> RECURSIONS = Set.of(
        "TakerSearch.chooseGiver(int,int,int)", "TakerSearch.goOn(int,int,int,int)");
    private static final int DEEPEST_CALL = 8;
    private static final int OBJECTS = 200;
    private static final int BYTES_OF_AN_OBJECT = 8000;

    private static final Checks CHECKS = new Checks("LanguageTest");

    public static void main(String[] args) throws IOException {
        face();
        classes();
        if (args.length > 0) {
            source(Files.readString(Path.of(args[0])));
            parsed(args[0]);
        }
        rowsMadeOnce();
        CHECKS.end();
    }

    private static void face() {
        CHECKS.begin("the face");
        Class<?> face = BarterRings.class;
        CHECKS.tell(Modifier.isFinal(face.getModifiers()) && Modifier.isPublic(face.getModifiers()), "public and final");
        Set<String> found = new TreeSet<>();
        Set<String> hidden = new TreeSet<>();
        for (Method method : face.getDeclaredMethods()) {
            if (Modifier.isPrivate(method.getModifiers())) {
                hidden.add(method.getName());
            } else {
                found.add(method.toGenericString().replace("public ", "").replace("BarterRings.", ""));
            }
        }
        CHECKS.tell(found.equals(FACE), "the methods are " + found);
        for (String method : FACE) {
            String name = method.replaceAll("^\\w+ |\\(.*", "");
            CHECKS.tell(!hidden.contains(name), "a private method bears the name " + name);
        }
        Set<String> constants = new TreeSet<>();
        for (Field field : face.getDeclaredFields()) {
            if (!Modifier.isPrivate(field.getModifiers())) {
                constants.add(field.getName());
            }
        }
        CHECKS.tell(constants.equals(CONSTANTS), "the fields that are not private are " + constants);
        Constructor<?>[] constructors = face.getDeclaredConstructors();
        CHECKS.tell(constructors.length == 1 && Modifier.isPublic(constructors[0].getModifiers())
            && constructors[0].getParameterCount() == 0, "the constructor");
    }

    private static List<Class<?>> allClasses() {
        List<Class<?>> all = new ArrayList<>(List.of(BarterRings.class.getDeclaredClasses()));
        all.add(BarterRings.class);
        return all;
    }

    private static void classes() {
        CHECKS.begin("the classes");
        CHECKS.tell(allClasses().size() <= 12, "there are " + allClasses().size());
        for (Class<?> one : allClasses()) {
            int fields = 0;
            for (Field field : one.getDeclaredFields()) {
                boolean fixed = Modifier.isStatic(field.getModifiers());
                CHECKS.tell(!fixed || Modifier.isFinal(field.getModifiers()), "the static field " + field + " is not final");
                fields += fixed ? 0 : 1;
            }
            CHECKS.tell(fields <= 20, one + " has " + fields + " fields");
            for (Method method : one.getDeclaredMethods()) {
                CHECKS.tell(method.getParameterCount() <= 7, method + " takes too much");
            }
            CHECKS.tell(one == BarterRings.class || Modifier.isStatic(one.getModifiers()), one + " is not static");
        }
    }

    private static void source(String whole) {
        CHECKS.begin("the source");
        String text = whole.replaceAll("(?s)/\\*.*?\\*/", "").replaceAll("//[^\n]*", "");
        for (String word : RULED_OUT) {
            CHECKS.tell(!Pattern.compile(word).matcher(text).find(), word + " is ruled out");
        }
        Matcher imports = Pattern.compile("import ([^;]*);").matcher(text);
        while (imports.find()) {
            CHECKS.tell(imports.group(1).equals("java.util.Arrays"), "the import of " + imports.group(1));
        }
        CHECKS.tell(whole.chars().allMatch(sign -> sign < 128), "a sign beyond 127");
        int from = -1;
        String[] lines = whole.split("\n");
        for (int line = 0; line < lines.length; line++) {
            if (lines[line].matches(" {4,8}[a-z][^=;]*\\) \\{")) {
                from = line;
            } else if (lines[line].matches(" {4,8}\\}") && from >= 0) {
                CHECKS.tell(line - from < 60, "the method at line " + (from + 1) + " is too long");
                from = -1;
            }
        }
    }

    private static void parsed(String file) throws IOException {
        CHECKS.begin("what the compiler reads");
        ParsedSource source = new ParsedSource(file);
        SourceFaults shape = new SourceFaults(source);
        for (String fault : shape.faults()) {
            CHECKS.tell(false, fault);
        }
        CHECKS.tell(shape.looked() > 100, "not much was read: " + shape.looked());
        CallDepth calls = new CallDepth(source);
        CHECKS.tell(calls.recursive().equals(RECURSIONS), "these call themselves: " + calls.recursive());
        List<String> deepest = calls.deepest();
        CHECKS.tell(deepest.size() <= DEEPEST_CALL, "calls go too deep: " + deepest);
        CHECKS.tell(deepest.size() > 1, "no calls were read");
        for (String called : calls.outside()) {
            CHECKS.tell(LIBRARY.contains(called), "a call of " + called);
        }
    }

    /** What an object needs is made with it: its calls make nothing more. */
    private static void rowsMadeOnce() {
        CHECKS.begin("the room");
        ThreadMXBean room = (ThreadMXBean) ManagementFactory.getThreadMXBean();
        useObjects(1);
        long before = room.getCurrentThreadAllocatedBytes();
        useObjects(OBJECTS);
        long bytes = (room.getCurrentThreadAllocatedBytes() - before) / OBJECTS;
        CHECKS.tell(bytes <= BYTES_OF_AN_OBJECT, "an object with its calls takes " + bytes + " bytes");
    }

    private static void useObjects(int objects) {
        for (int made = 0; made < objects; made++) {
            BarterRings x = new BarterRings();
            for (int round = 0; round < 14; round++) {
                useAllCalls(x, round);
            }
        }
    }

    private static void useAllCalls(BarterRings x, int round) {
        x.come(round % 6, 63);
        x.want(round % 7, 63);
        x.life(round % 6, 1 + round % 9);
        x.circle(2 + round % 6);
        x.lot(round);
        x.barter(0, 1);
        x.call();
        x.day();
        x.append('c');
        x.days();
        x.append('0');
        x.append('>');
        x.append('1');
        x.fault(0);
        x.traders();
        x.clear();
        x.why(0);
        x.trader(0, 9);
        x.can(0, 1);
        x.whyNot(0, 1);
        x.most(0);
        x.most(1);
        x.kind(0, 2);
        x.count(10);
        x.freshness();
        x.ifCircle(3);
        x.ifDays(20, 2);
        x.bestWant(0);
        x.save();
        x.restore();
        x.undo();
        x.go(round % 7);
    }
}
