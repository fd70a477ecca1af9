import java.util.ArrayList;
import java.util.HashMap;
import java.util.HashSet;
import java.util.List;
import java.util.Map;
import java.util.Set;

/** The document told once more, without anything kept but what was told; slow, and made apart from the class. */
final class Model {
    private record Range(int from, int to, int function) {
    }

    private record Report(int version, int user, List<Integer> stack) {
    }

    private final List<List<Range>> maps = new ArrayList<>();
    private final Set<Integer> ignored = new HashSet<>();
    private final Map<Integer, Integer> next = new HashMap<>();
    private final List<Report> told = new ArrayList<>();
    private final Map<Integer, Integer> fixes = new HashMap<>();
    private final Map<Integer, Integer> sessions = new HashMap<>();
    private int depth = 2;
    private int limit = 100;

    Model() {
        for (int version = 0; version <= 3; version++) {
            maps.add(new ArrayList<>());
            sessions.put(version, 0);
        }
    }

    private static void in(int value, int least, int greatest) {
        if (value < least || value > greatest) {
            throw new IllegalArgumentException();
        }
    }

    private Report at(int report) {
        if (report < 0 || report >= told.size()) {
            throw new IndexOutOfBoundsException();
        }
        return told.get(report);
    }

    int addRange(int version, int from, int to, int function) {
        in(version, 0, 3);
        in(from, 0, 9999);
        in(to, from, 9999);
        in(function, 0, 29);
        List<Range> map = maps.get(version);
        for (Range r : map) {
            if (Math.max(r.from, from) <= Math.min(r.to, to)) {
                throw new IllegalStateException();
            }
        }
        if (map.size() == 30) {
            throw new IllegalStateException();
        }
        map.add(new Range(from, to, function));
        return map.size();
    }

    boolean ignore(int function, boolean isIgnored) {
        in(function, 0, 29);
        return isIgnored ? !ignored.add(function) : ignored.remove(function);
    }

    int standFor(int function, int other) {
        in(function, 0, 29);
        in(other, 0, 29);
        if (function != other) {
            for (Integer f = other; f != null; f = next.get(f)) {
                if (f == function) {
                    throw new IllegalStateException();
                }
            }
        }
        Integer before = function == other ? next.remove(function) : next.put(function, other);
        return before == null ? function : before;
    }

    int setDepth(int newDepth) {
        in(newDepth, 1, 4);
        int before = depth;
        depth = newDepth;
        return before;
    }

    int report(int version, int user, int first, int second, int third, int fourth) {
        in(version, 0, 3);
        in(user, 0, 19);
        in(first, 0, 9999);
        in(second, -1, 9999);
        in(third, -1, second == -1 ? -1 : 9999);
        in(fourth, -1, third == -1 ? -1 : 9999);
        if (told.size() == 60) {
            throw new IllegalStateException();
        }
        List<Integer> stack = new ArrayList<>(List.of(first, second, third, fourth));
        stack.removeIf(address -> address == -1);
        told.add(new Report(version, user, stack));
        return told.size() - 1;
    }

    int reports() {
        return told.size();
    }

    private int frame(Report r, int place) {
        if (place < r.stack.size()) {
            for (Range range : maps.get(r.version)) {
                if (range.from <= r.stack.get(place) && r.stack.get(place) <= range.to) {
                    return range.function;
                }
            }
        }
        return -1;
    }

    int frame(int report, int place) {
        Report r = at(report);
        in(place, 0, 3);
        return frame(r, place);
    }

    private List<Integer> matters(Report r) {
        List<Integer> row = new ArrayList<>();
        for (int place = 0; place < 4; place++) {
            Integer f = frame(r, place);
            if (f != -1 && !ignored.contains(f)) {
                while (next.containsKey(f)) {
                    f = next.get(f);
                }
                row.add(f);
            }
        }
        return row.subList(0, Math.min(depth, row.size()));
    }

    int matters(int report, int place) {
        List<Integer> row = matters(at(report));
        in(place, 0, 3);
        return place < row.size() ? row.get(place) : -1;
    }

    private boolean areTogether(Report a, Report b) {
        List<Integer> rowA = matters(a);
        List<Integer> rowB = matters(b);
        if (rowA.isEmpty() && rowB.isEmpty()) {
            return a.version == b.version && a.stack.get(0).equals(b.stack.get(0));
        }
        return rowA.equals(rowB);
    }

    int bucket(int report) {
        Report r = at(report);
        for (int name = 0; name < report; name++) {
            if (areTogether(told.get(name), r)) {
                return name;
            }
        }
        return report;
    }

    private Set<Integer> names() {
        Set<Integer> names = new java.util.TreeSet<>();
        for (int report = 0; report < told.size(); report++) {
            names.add(bucket(report));
        }
        return names;
    }

    int buckets() {
        return names().size();
    }

    private List<Report> members(int report, int version) {
        List<Report> members = new ArrayList<>();
        for (Report r : told) {
            if (areTogether(r, told.get(report)) && (version == -1 || r.version == version)) {
                members.add(r);
            }
        }
        return members;
    }

    int size(int report) {
        at(report);
        return members(report, -1).size();
    }

    int setSessions(int version, int count) {
        in(version, 0, 3);
        in(count, 0, 1000000);
        return sessions.put(version, count);
    }

    int setLimit(int newLimit) {
        in(newLimit, 1, 10000);
        int before = limit;
        limit = newLimit;
        return before;
    }

    int rate(int report, int version) {
        at(report);
        in(version, 0, 3);
        int among = sessions.get(version);
        return among == 0 ? 0 : (int) (10000L * members(report, version).size() / among);
    }

    int users(int report, int version) {
        at(report);
        in(version, 0, 3);
        Set<Integer> users = new HashSet<>();
        for (Report r : members(report, version)) {
            users.add(r.user);
        }
        return users.size();
    }

    int gate(int version) {
        in(version, 0, 3);
        boolean isFew = sessions.get(version) < 50;
        for (int name : names()) {
            if (!isFew && rate(name, version) >= limit && users(name, version) >= 2) {
                return 2;
            }
        }
        for (int name : names()) {
            if (rate(name, version) * 2 >= limit) {
                return 1;
            }
        }
        return isFew ? 1 : 0;
    }

    int worst(int version) {
        in(version, 0, 3);
        int greatest = 0;
        for (int name : names()) {
            greatest = Math.max(greatest, rate(name, version));
        }
        for (int name : names()) {
            if (greatest > 0 && rate(name, version) == greatest) {
                return name;
            }
        }
        return -1;
    }

    int fix(int report, int version) {
        at(report);
        in(version, 1, 3);
        Integer before = fixes.put(report, version);
        return before == null ? -1 : before;
    }

    boolean holds(int report) {
        at(report);
        if (!fixes.containsKey(report)) {
            throw new IllegalStateException();
        }
        int from = fixes.get(report);
        int greatest = 0;
        for (int version = 0; version < from; version++) {
            greatest = Math.max(greatest, rate(report, version));
        }
        boolean isHeld = true;
        for (int version = from; version <= 3; version++) {
            if (sessions.get(version) > 0) {
                isHeld &= 2 * rate(report, version) <= greatest;
            }
        }
        return isHeld;
    }
}
