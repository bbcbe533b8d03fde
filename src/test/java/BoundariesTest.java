import java.util.Set;
import java.util.TreeSet;

/** Each boundary case that a sentence of the document names, with a test of its own. */
public final class BoundariesTest {
    private static final String[] SECTIONS = {
        "What it is", "Terms", "Who takes from whom", "Deeds", "Settings", "Texts", "Changes and errors"};
    private static final int PROMISES = 29;

    public static void main(String[] args) {
        Checks checks = new Checks("BoundariesTest");
        runAll(checks);
        checks.end();
    }

    private static void runAll(Checks checks) {
        Set<String> names = new TreeSet<>();
        CaseBook[] books = {
            new TermsCases(), new TradersCases(), new DeedsCases(), new TextsCases(), new LooksCases(), new ChangesCases()};
        for (CaseBook book : books) {
            for (String name : book.runAll(checks)) {
                checks.tell(names.add(name), "the name stands twice: " + name);
            }
        }
        checks.begin("the names");
        for (String section : SECTIONS) {
            checks.tell(anyBeginsWith(names, section + ":"), "no case of " + section);
        }
        for (int promise = 1; promise <= PROMISES; promise++) {
            checks.tell(anyBeginsWith(names, promise + " "), "no case of the promise " + promise);
        }
        System.out.println("BoundariesTest: " + names.size() + " cases");
    }

    private static boolean anyBeginsWith(Set<String> names, String beginning) {
        for (String name : names) {
            if (name.startsWith(beginning)) {
                return true;
            }
        }
        return false;
    }
}
