import com.sun.source.tree.ClassTree;
import com.sun.source.tree.MethodInvocationTree;
import com.sun.source.tree.MethodTree;
import com.sun.source.tree.NewClassTree;
import com.sun.source.util.TreePath;
import java.util.ArrayList;
import java.util.LinkedHashMap;
import java.util.LinkedHashSet;
import java.util.List;
import java.util.Map;
import java.util.Set;
import javax.lang.model.element.Element;
import javax.lang.model.element.ElementKind;

/**
 * Which of the program's methods call which. A class's first values stand for what its constructors
 * call.
 */
final class CallGraph {
    private final Map<Element, Set<Element>> called = new LinkedHashMap<>();
    private final Set<String> library = new LinkedHashSet<>();

    CallGraph(Source source) {
        for (TreePath part : source.parts()) {
            boolean isCall = part.getLeaf() instanceof MethodInvocationTree || part.getLeaf() instanceof NewClassTree;
            if (isCall) {
                add(caller(source, part), source.named(part));
            }
        }
    }

    private static Element caller(Source source, TreePath part) {
        for (TreePath outer = part.getParentPath(); outer != null; outer = outer.getParentPath()) {
            if (outer.getLeaf() instanceof MethodTree || outer.getLeaf() instanceof ClassTree) {
                return source.named(outer);
            }
        }
        throw new IllegalStateException("a call outside every class");
    }

    private void add(Element from, Element to) {
        if (!isOwn(to)) {
            library.add(to.getEnclosingElement() + "." + to.getSimpleName());
            return;
        }
        boolean isMade = to.getKind() == ElementKind.CONSTRUCTOR;
        called.computeIfAbsent(from, any -> new LinkedHashSet<>()).add(to);
        if (isMade) {
            called.computeIfAbsent(to, any -> new LinkedHashSet<>()).add(to.getEnclosingElement());
        }
    }

    private static boolean isOwn(Element element) {
        for (Element outer = element; outer != null; outer = outer.getEnclosingElement()) {
            if (outer.getSimpleName().contentEquals("FlipBoard")) {
                return true;
            }
        }
        return false;
    }

    /** The library's methods that are called, each with its class. */
    Set<String> library() {
        return library;
    }

    /** A method that comes back to itself, or an empty text. */
    String recursion() {
        for (Element element : called.keySet()) {
            if (reaches(element, element, new LinkedHashSet<>())) {
                return element.toString();
            }
        }
        return "";
    }

    private boolean reaches(Element from, Element to, Set<Element> seen) {
        for (Element next : called.getOrDefault(from, Set.of())) {
            if (next.equals(to) || seen.add(next) && reaches(next, to, seen)) {
                return true;
            }
        }
        return false;
    }

    /** The longest chain of calls, where none comes back to itself. */
    List<Element> deepest() {
        List<Element> deepest = List.of();
        for (Element element : called.keySet()) {
            List<Element> chain = deepestFrom(element);
            deepest = chain.size() > deepest.size() ? chain : deepest;
        }
        return deepest;
    }

    private List<Element> deepestFrom(Element element) {
        List<Element> deepest = List.of();
        for (Element next : called.getOrDefault(element, Set.of())) {
            List<Element> chain = deepestFrom(next);
            deepest = chain.size() > deepest.size() ? chain : deepest;
        }
        List<Element> whole = new ArrayList<>(deepest);
        whole.add(0, element);
        return whole;
    }
}
