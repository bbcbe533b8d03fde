import com.sun.source.tree.MethodInvocationTree;
import com.sun.source.tree.MethodTree;
import com.sun.source.tree.NewClassTree;
import com.sun.source.tree.Tree;
import com.sun.source.util.TreePathScanner;
import com.sun.source.util.Trees;
import java.util.ArrayList;
import java.util.List;
import java.util.Map;
import java.util.Set;
import java.util.TreeMap;
import java.util.TreeSet;
import javax.lang.model.element.Element;
import javax.lang.model.element.ElementKind;

/** Reads from a source which of its methods call which, how deep those calls go, and what they call outside. */
final class CallDepth {
    private final Set<String> outside = new TreeSet<>();
    private final Map<String, Set<String>> callsOf = new TreeMap<>();
    private final Map<String, Set<String>> reachedFrom = new TreeMap<>();
    private final Map<String, List<String>> deepestFrom = new TreeMap<>();

    CallDepth(ParsedSource source) {
        new CallReader(source.trees).scan(source.unit, null);
        for (Set<String> called : callsOf.values()) {
            outside.addAll(called);
            called.retainAll(callsOf.keySet());
        }
        outside.removeAll(callsOf.keySet());
        for (String method : callsOf.keySet()) {
            Set<String> reached = new TreeSet<>();
            reach(method, reached);
            reachedFrom.put(method, reached);
        }
    }

    /** What is called and does not stand in the source. */
    Set<String> outside() {
        return outside;
    }

    /** The longest chain of calls, that of a recursion counted with each of its methods once. */
    List<String> deepest() {
        List<String> deepest = List.of();
        for (String method : callsOf.keySet()) {
            deepest = longer(deepest, deepestFrom(method));
        }
        return deepest;
    }

    /** The methods that call themselves, or that call one another. */
    Set<String> recursive() {
        Set<String> recursive = new TreeSet<>();
        for (String method : callsOf.keySet()) {
            if (reachedFrom.get(method).contains(method)) {
                recursive.add(method);
            }
        }
        return recursive;
    }

    private void reach(String from, Set<String> reached) {
        for (String called : callsOf.get(from)) {
            if (reached.add(called)) {
                reach(called, reached);
            }
        }
    }

    private List<String> deepestFrom(String method) {
        if (!deepestFrom.containsKey(method)) {
            List<String> chain = new ArrayList<>(recursionOf(method));
            List<String> below = List.of();
            for (String member : chain) {
                for (String called : callsOf.get(member)) {
                    if (!chain.contains(called)) {
                        below = longer(below, deepestFrom(called));
                    }
                }
            }
            chain.addAll(below);
            deepestFrom.put(method, chain);
        }
        return deepestFrom.get(method);
    }

    private Set<String> recursionOf(String method) {
        Set<String> members = new TreeSet<>(Set.of(method));
        for (String other : reachedFrom.get(method)) {
            if (reachedFrom.get(other).contains(method)) {
                members.add(other);
            }
        }
        return members;
    }

    private static List<String> longer(List<String> one, List<String> other) {
        return other.size() > one.size() ? other : one;
    }

    private final class CallReader extends TreePathScanner<Void, Void> {
        private final Trees trees;
        private String caller;

        CallReader(Trees trees) {
            this.trees = trees;
        }

        @Override
        public Void visitMethod(MethodTree method, Void nothing) {
            String outer = caller;
            caller = nameOf(method);
            callsOf.computeIfAbsent(caller, name -> new TreeSet<>());
            super.visitMethod(method, nothing);
            caller = outer;
            return null;
        }

        @Override
        public Void visitMethodInvocation(MethodInvocationTree call, Void nothing) {
            note(call.getMethodSelect());
            return super.visitMethodInvocation(call, nothing);
        }

        @Override
        public Void visitNewClass(NewClassTree made, Void nothing) {
            note(made);
            return super.visitNewClass(made, nothing);
        }

        private void note(Tree called) {
            if (caller != null) {
                callsOf.get(caller).add(nameOf(called));
            }
        }

        private String nameOf(Tree tree) {
            Element element = trees.getElement(trees.getPath(getCurrentPath().getCompilationUnit(), tree));
            if (element == null) {
                return "";
            }
            boolean isMade = element.getKind() == ElementKind.CONSTRUCTOR;
            return element.getEnclosingElement().getSimpleName() + "." + (isMade ? "new" : element.toString());
        }
    }
}
