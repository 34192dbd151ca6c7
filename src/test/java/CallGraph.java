import java.util.ArrayList;
import java.util.LinkedHashMap;
import java.util.LinkedHashSet;
import java.util.List;
import java.util.Map;
import java.util.Set;
import javax.lang.model.element.Element;
import javax.lang.model.element.ExecutableElement;
import javax.lang.model.element.Modifier;

/** Which method of a program calls which of its own methods. */
final class CallGraph {
  private final Map<String, Set<String>> calls = new LinkedHashMap<>();
  private final Set<String> privateStatics = new LinkedHashSet<>();

  /** A method's class, name and parameters' names. */
  static String told(ExecutableElement method) {
    List<String> names = new ArrayList<>();
    method.getParameters().forEach(p -> names.add(p.getSimpleName().toString()));
    return SourceTree.home(method) + "." + method.getSimpleName() + names;
  }

  void add(ExecutableElement method) {
    calls.putIfAbsent(told(method), new LinkedHashSet<>());
    if (method.getModifiers().containsAll(Set.of(Modifier.PRIVATE, Modifier.STATIC))) {
      privateStatics.add(told(method));
    }
  }

  void addCall(Element caller, Element called) {
    if (caller instanceof ExecutableElement from && called instanceof ExecutableElement to) {
      calls.computeIfAbsent(told(from), name -> new LinkedHashSet<>()).add(told(to));
    }
  }

  boolean isPrivateStatic(String method) {
    return privateStatics.contains(method);
  }

  /** The methods from which calls lead back to themselves. */
  List<String> recursive() {
    List<String> all = new ArrayList<>();
    for (String method : calls.keySet()) {
      Set<String> reached = new LinkedHashSet<>();
      reach(method, reached);
      if (reached.contains(method)) {
        all.add(method);
      }
    }
    return all;
  }

  private void reach(String from, Set<String> reached) {
    for (String next : calls.getOrDefault(from, Set.of())) {
      if (reached.add(next)) {
        reach(next, reached);
      }
    }
  }

  /** The longest row of calls in which no method stands twice. */
  List<String> deepest() {
    List<String> best = new ArrayList<>();
    for (String method : calls.keySet()) {
      List<String> row = deepestFrom(method, new LinkedHashSet<>());
      best = row.size() > best.size() ? row : best;
    }
    return best;
  }

  private List<String> deepestFrom(String method, Set<String> open) {
    open.add(method);
    List<String> best = new ArrayList<>();
    for (String next : calls.getOrDefault(method, Set.of())) {
      List<String> row = open.contains(next) ? List.of() : deepestFrom(next, open);
      best = row.size() > best.size() ? row : best;
    }
    open.remove(method);
    List<String> all = new ArrayList<>(List.of(method));
    all.addAll(best);
    return all;
  }
}
