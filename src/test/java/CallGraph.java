import java.util.ArrayList;
import java.util.HashMap;
import java.util.List;
import java.util.Map;
import java.util.Set;
import java.util.TreeMap;
import java.util.TreeSet;

/** Which methods of a class call which others of it: what calls itself again, and how deep all other calls go. */
final class CallGraph {

    private final Map<String, Set<String>> called = new TreeMap<>();

    void addMethod(String method) {
        called.computeIfAbsent(method, name -> new TreeSet<>());
    }

    void addCall(String from, String to) {
        addMethod(from);
        addMethod(to);
        called.get(from).add(to);
    }

    /** Sets of methods that reach themselves again through one another. */
    List<Set<String>> recursions() {
        List<Set<String>> found = new ArrayList<>();
        for (String method : called.keySet()) {
            Set<String> circle = circleOf(method);
            if (!circle.isEmpty() && !found.contains(circle)) {
                found.add(circle);
            }
        }
        return found;
    }

    private Set<String> circleOf(String method) {
        Set<String> circle = new TreeSet<>();
        for (String other : reachedFrom(method)) {
            if (reachedFrom(other).contains(method)) {
                circle.add(other);
            }
        }
        return circle;
    }

    private Set<String> reachedFrom(String method) {
        Set<String> reached = new TreeSet<>();
        List<String> open = new ArrayList<>(called.get(method));
        while (!open.isEmpty()) {
            String next = open.remove(open.size() - 1);
            if (reached.add(next)) {
                open.addAll(called.get(next));
            }
        }
        return reached;
    }

    /** The longest chain of calls, in which methods that call one another in a circle count once, all of them together. */
    int depth() {
        Map<String, Set<String>> circles = new HashMap<>();
        for (String method : called.keySet()) {
            circles.put(method, circleOf(method));
        }
        Map<String, Integer> depths = new HashMap<>();
        int deepest = 0;
        for (String method : called.keySet()) {
            deepest = Math.max(deepest, depthFrom(method, circles, depths));
        }
        return deepest;
    }

    private int depthFrom(String method, Map<String, Set<String>> circles, Map<String, Integer> depths) {
        Integer known = depths.get(method);
        if (known != null) {
            return known;
        }
        Set<String> together = new TreeSet<>(circles.get(method));
        together.add(method);
        int below = 0;
        for (String member : together) {
            for (String next : called.get(member)) {
                if (!together.contains(next)) {
                    below = Math.max(below, depthFrom(next, circles, depths));
                }
            }
        }
        depths.put(method, below + 1);
        return below + 1;
    }
}
