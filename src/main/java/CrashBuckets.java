/**
 * Buckets of crashes. Versions, functions, users, addresses and reports are numbered from 0.
 *
 * <p>What is told is kept in AddressMaps, Rules and Reports. What follows from it for each report
 * (frames, frames that matter, the name of its bucket) is kept in Buckets, which every call that
 * changes a map, a rule or the reports brings up to date; so questions only look things up.
 */
public final class CrashBuckets {
    public static final int NONE = -1;
    public static final int PASS = 0, SLOW = 1, HOLD = 2;

    private static final int VERSIONS = 4;
    private static final int FUNCTIONS = 30;
    private static final int USERS = 20;
    private static final int ADDRESSES = 10000;
    private static final int MAX_RANGES = 30;
    private static final int MAX_REPORTS = 60;
    private static final int PLACES = 4;
    private static final int FIRST_DEPTH = 2;
    private static final int MAX_SESSIONS = 1000000;
    private static final int FIRST_LIMIT = 100;
    private static final int MAX_LIMIT = 10000;
    private static final int RATE_SCALE = 10000;
    private static final int SESSIONS_TO_JUDGE = 50;
    private static final int USERS_TO_HOLD = 2;

    private final AddressMaps maps = new AddressMaps();
    private final Rules rules = new Rules();
    private final Reports told = new Reports();
    private final Buckets sorted = new Buckets();
    private final int[] sessions = new int[VERSIONS];
    private int limit = FIRST_LIMIT;

    public CrashBuckets() {
    }

    // ---- maps and rules

    public int addRange(int version, int from, int to, int function)
            throws IllegalArgumentException, IllegalStateException {
        checkArgument(isBelow(version, VERSIONS) && isBelow(function, FUNCTIONS));
        checkArgument(isBelow(from, ADDRESSES) && isBelow(to, ADDRESSES) && from <= to);
        if (maps.isFull(version)) {
            throw new IllegalStateException("the map has 30 ranges");
        }
        if (maps.overlaps(version, from, to)) {
            throw new IllegalStateException("the range overlaps with one of the map");
        }
        maps.add(version, from, to, function);
        sorted.readStacksOf(version, told, maps);
        sorted.sortAll(told, rules);
        return maps.counts[version];
    }

    public boolean ignore(int function, boolean isIgnored) throws IllegalArgumentException {
        checkArgument(isBelow(function, FUNCTIONS));
        boolean before = rules.ignored[function];
        rules.ignored[function] = isIgnored;
        sorted.sortAll(told, rules);
        return before;
    }

    public int standFor(int function, int other) throws IllegalArgumentException, IllegalStateException {
        checkArgument(isBelow(function, FUNCTIONS) && isBelow(other, FUNCTIONS));
        if (function != other && rules.leadsTo(other, function)) {
            throw new IllegalStateException("the other function comes to stand for this one");
        }
        int before = rules.standsFor[function];
        rules.standsFor[function] = other;
        sorted.sortAll(told, rules);
        return before;
    }

    public int setDepth(int depth) throws IllegalArgumentException {
        checkArgument(depth >= 1 && depth <= PLACES);
        int before = rules.depth;
        rules.depth = depth;
        sorted.sortAll(told, rules);
        return before;
    }

    // ---- reports

    public int report(int version, int user, int first, int second, int third, int fourth)
            throws IllegalArgumentException, IllegalStateException {
        checkArgument(isBelow(version, VERSIONS) && isBelow(user, USERS));
        checkArgument(isBelow(first, ADDRESSES) && mayFollow(first, second)
                && mayFollow(second, third) && mayFollow(third, fourth));
        if (told.count >= MAX_REPORTS) {
            throw new IllegalStateException("there are 60 reports");
        }
        int number = told.add(version, user);
        told.setStack(number, first, second, third, fourth);
        sorted.readStack(number, told, maps);
        sorted.sort(number, told, rules);
        return number;
    }

    public int reports() {
        return told.count;
    }

    public int frame(int report, int place) throws IndexOutOfBoundsException, IllegalArgumentException {
        checkReport(report);
        checkArgument(isBelow(place, PLACES));
        return sorted.frames[report][place];
    }

    public int matters(int report, int place) throws IndexOutOfBoundsException, IllegalArgumentException {
        checkReport(report);
        checkArgument(isBelow(place, PLACES));
        return sorted.mattering[report][place];
    }

    // ---- buckets

    public int bucket(int report) throws IndexOutOfBoundsException {
        checkReport(report);
        return sorted.names[report];
    }

    public int buckets() {
        int found = 0;
        for (int report = 0; report < told.count; report++) {
            if (sorted.isName(report)) {
                found++;
            }
        }
        return found;
    }

    public int size(int report) throws IndexOutOfBoundsException {
        checkReport(report);
        int found = 0;
        for (int version = 0; version < VERSIONS; version++) {
            found += countIn(sorted.names[report], version);
        }
        return found;
    }

    // ---- rates, gates and fixes

    public int setSessions(int version, int sessions) throws IllegalArgumentException {
        checkArgument(isBelow(version, VERSIONS) && sessions >= 0 && sessions <= MAX_SESSIONS);
        int before = this.sessions[version];
        this.sessions[version] = sessions;
        return before;
    }

    public int setLimit(int limit) throws IllegalArgumentException {
        checkArgument(limit >= 1 && limit <= MAX_LIMIT);
        int before = this.limit;
        this.limit = limit;
        return before;
    }

    public int rate(int report, int version) throws IndexOutOfBoundsException, IllegalArgumentException {
        checkReport(report);
        checkArgument(isBelow(version, VERSIONS));
        return rateOf(sorted.names[report], version);
    }

    public int users(int report, int version) throws IndexOutOfBoundsException, IllegalArgumentException {
        checkReport(report);
        checkArgument(isBelow(version, VERSIONS));
        return usersOf(sorted.names[report], version);
    }

    public int gate(int version) throws IllegalArgumentException {
        checkArgument(isBelow(version, VERSIONS));
        boolean isJudged = sessions[version] >= SESSIONS_TO_JUDGE;
        boolean isSlow = !isJudged;
        for (int name = 0; name < told.count; name++) {
            if (sorted.isName(name)) {
                int rate = rateOf(name, version);
                if (isJudged && rate >= limit && usersOf(name, version) >= USERS_TO_HOLD) {
                    return HOLD;
                }
                isSlow = isSlow || 2 * rate >= limit;
            }
        }
        return isSlow ? SLOW : PASS;
    }

    public int worst(int version) throws IllegalArgumentException {
        checkArgument(isBelow(version, VERSIONS));
        int worst = NONE;
        int greatest = 0;
        for (int name = 0; name < told.count; name++) {
            if (sorted.isName(name)) {
                int rate = rateOf(name, version);
                if (rate > greatest) {
                    worst = name;
                    greatest = rate;
                }
            }
        }
        return worst;
    }

    public int fix(int report, int version) throws IndexOutOfBoundsException, IllegalArgumentException {
        checkReport(report);
        checkArgument(version >= 1 && isBelow(version, VERSIONS));
        int before = told.fixedFrom[report];
        told.fixedFrom[report] = version;
        return before;
    }

    public boolean holds(int report) throws IndexOutOfBoundsException, IllegalStateException {
        checkReport(report);
        int fixedFrom = told.fixedFrom[report];
        if (fixedFrom == NONE) {
            throw new IllegalStateException("the report has no fix");
        }
        int name = sorted.names[report];
        int greatest = greatestRateBefore(name, fixedFrom);
        for (int version = fixedFrom; version < VERSIONS; version++) {
            if (sessions[version] > 0 && 2 * rateOf(name, version) > greatest) {
                return false;
            }
        }
        return true;
    }

    // ---- what the calls share

    private static boolean isBelow(int value, int bound) {
        return value >= 0 && value < bound;
    }

    private static boolean mayFollow(int address, int next) {
        return next == NONE || address != NONE && isBelow(next, ADDRESSES);
    }

    private static void checkArgument(boolean isInRange) {
        if (!isInRange) {
            throw new IllegalArgumentException("an argument is out of range");
        }
    }

    private void checkReport(int report) {
        if (!isBelow(report, told.count)) {
            throw new IndexOutOfBoundsException("there is no such report");
        }
    }

    private boolean isOf(int report, int name, int version) {
        return sorted.names[report] == name && told.versions[report] == version;
    }

    private int countIn(int name, int version) {
        int found = 0;
        for (int report = 0; report < told.count; report++) {
            if (isOf(report, name, version)) {
                found++;
            }
        }
        return found;
    }

    private int rateOf(int name, int version) {
        int among = sessions[version];
        return among > 0 ? RATE_SCALE * countIn(name, version) / among : 0;
    }

    private int usersOf(int name, int version) {
        // One bit a user, so that one who reports twice counts once.
        int seen = 0;
        for (int report = 0; report < told.count; report++) {
            if (isOf(report, name, version)) {
                seen |= 1 << told.reporters[report];
            }
        }
        return Integer.bitCount(seen);
    }

    private int greatestRateBefore(int name, int end) {
        int greatest = 0;
        for (int version = 0; version < end; version++) {
            greatest = Math.max(greatest, rateOf(name, version));
        }
        return greatest;
    }

    /** The map of each version: ranges in the order in which they were added. */
    private static final class AddressMaps {
        private final int[] counts = new int[VERSIONS];
        private final int[][] froms = new int[VERSIONS][MAX_RANGES];
        private final int[][] tos = new int[VERSIONS][MAX_RANGES];
        private final int[][] functions = new int[VERSIONS][MAX_RANGES];

        private boolean isFull(int version) {
            return counts[version] >= MAX_RANGES;
        }

        private boolean overlaps(int version, int from, int to) {
            for (int range = 0; range < counts[version]; range++) {
                if (froms[version][range] <= to && from <= tos[version][range]) {
                    return true;
                }
            }
            return false;
        }

        private void add(int version, int from, int to, int function) {
            int range = counts[version];
            froms[version][range] = from;
            tos[version][range] = to;
            functions[version][range] = function;
            counts[version] = range + 1;
        }

        private int functionAt(int version, int address) {
            for (int range = 0; range < counts[version]; range++) {
                if (froms[version][range] <= address && address <= tos[version][range]) {
                    return functions[version][range];
                }
            }
            return NONE;
        }
    }

    /** Which functions are ignored, for which one each stands, and the depth. */
    private static final class Rules {
        private final boolean[] ignored = new boolean[FUNCTIONS];
        private final int[] standsFor = new int[FUNCTIONS];
        private int depth = FIRST_DEPTH;

        private Rules() {
            for (int function = 0; function < FUNCTIONS; function++) {
                standsFor[function] = function;
            }
        }

        private boolean leadsTo(int start, int function) {
            int at = start;
            // No chain closes to a ring (standFor refuses that), so it is shorter than all functions.
            for (int step = 0; step < FUNCTIONS && at != function; step++) {
                at = standsFor[at];
            }
            return at == function;
        }

        private int inTheEnd(int function) {
            int at = function;
            for (int step = 0; step < FUNCTIONS && standsFor[at] != at; step++) {
                at = standsFor[at];
            }
            return at;
        }
    }

    /** What was told of each report; a place of its stack without an address holds NONE. */
    private static final class Reports {
        private int count = 0;
        private final int[] versions = new int[MAX_REPORTS];
        private final int[] reporters = new int[MAX_REPORTS];
        private final int[][] stacks = new int[MAX_REPORTS][PLACES];
        private final int[] fixedFrom = new int[MAX_REPORTS];

        private int add(int version, int user) {
            int number = count;
            versions[number] = version;
            reporters[number] = user;
            fixedFrom[number] = NONE;
            count = number + 1;
            return number;
        }

        private void setStack(int number, int first, int second, int third, int fourth) {
            stacks[number][0] = first;
            stacks[number][1] = second;
            stacks[number][2] = third;
            stacks[number][3] = fourth;
        }
    }

    /** What maps, rules and reports make of each report. */
    private static final class Buckets {
        private final int[][] frames = new int[MAX_REPORTS][PLACES];
        private final int[][] mattering = new int[MAX_REPORTS][PLACES];
        private final int[] signatures = new int[MAX_REPORTS];
        private final int[] names = new int[MAX_REPORTS];

        private boolean isName(int report) {
            return names[report] == report;
        }

        private void readStacksOf(int version, Reports told, AddressMaps maps) {
            for (int report = 0; report < told.count; report++) {
                if (told.versions[report] == version) {
                    readStack(report, told, maps);
                }
            }
        }

        private void readStack(int report, Reports told, AddressMaps maps) {
            for (int place = 0; place < PLACES; place++) {
                // NONE lies in no range, so a place beyond the stack becomes unknown too.
                frames[report][place] = maps.functionAt(told.versions[report], told.stacks[report][place]);
            }
        }

        private void sortAll(Reports told, Rules rules) {
            for (int report = 0; report < told.count; report++) {
                sort(report, told, rules);
            }
        }

        /** Right only when all reports before this one are sorted: a bucket's name is its first report. */
        private void sort(int report, Reports told, Rules rules) {
            pickMattering(report, rules);
            signatures[report] = signatureOf(report, told);
            int name = 0;
            while (name < report && signatures[name] != signatures[report]) {
                name++;
            }
            names[report] = name;
        }

        private void pickMattering(int report, Rules rules) {
            int picked = 0;
            for (int place = 0; place < PLACES && picked < rules.depth; place++) {
                int function = frames[report][place];
                if (function != NONE && !rules.ignored[function]) {
                    mattering[report][picked] = rules.inTheEnd(function);
                    picked++;
                }
            }
            for (int rest = picked; rest < PLACES; rest++) {
                mattering[report][rest] = NONE;
            }
        }

        /** One number for all that decides the bucket: above 0 from frames, below 0 without any. */
        private int signatureOf(int report, Reports told) {
            int signature = 0;
            for (int place = 0; place < PLACES; place++) {
                // A frame counts 1 to FUNCTIONS and a missing one 0, so no two rows give one number.
                signature = signature * (FUNCTIONS + 1) + mattering[report][place] + 1;
            }
            if (signature > 0) {
                return signature;
            }
            return -1 - told.versions[report] * ADDRESSES - told.stacks[report][0];
        }
    }
}
