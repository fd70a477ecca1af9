/** Objects that several tests begin with, and all that can be asked of one. */
final class Scene {
    private static final int NONE = CrashBuckets.NONE;

    private Scene() {
    }

    /** Function f takes the addresses 10 f to 10 f + 8; 10 f + 9 stays unknown. */
    static void mapAll(CrashBuckets x, int version) {
        for (int function = 0; function < 30; function++) {
            x.addRange(version, function * 10, function * 10 + 8, function);
        }
    }

    /** Reports of one user with stacks of this one address. */
    static void tell(CrashBuckets x, int times, int version, int user, int address) {
        for (int time = 0; time < times; time++) {
            x.report(version, user, address, NONE, NONE, NONE);
        }
    }

    /** The addresses 0 to 9 of all versions are one function, so that a bucket can lie in several versions. */
    static CrashBuckets joined() {
        CrashBuckets x = new CrashBuckets();
        for (int version = 0; version < 4; version++) {
            x.addRange(version, 0, 9, 7);
        }
        return x;
    }

    /**
     * Three reports of three users in version 0, without a map. Their first addresses are unlike, but all lie in
     * 0 to 9; the second ones of reports 1 and 2 lie in 10 to 19, that of report 0 in 20 to 29.
     */
    static CrashBuckets splittable() {
        CrashBuckets x = new CrashBuckets();
        x.report(0, 3, 1, 20, NONE, NONE);
        x.report(0, 4, 2, 10, NONE, NONE);
        x.report(0, 5, 3, 19, NONE, NONE);
        return x;
    }

    /** Something of everything told; the addresses from 500 on are unknown in all versions. */
    static CrashBuckets busy() {
        CrashBuckets x = new CrashBuckets();
        x.addRange(0, 0, 99, 1);
        x.addRange(0, 100, 199, 29);
        x.addRange(1, 0, 99, 0);
        x.ignore(29, true);
        x.standFor(0, 1);
        x.setDepth(3);
        x.report(0, 19, 50, 150, 500, 60);
        x.report(1, 0, 50, 9999, 99, NONE);
        x.report(1, 3, 600, NONE, NONE, NONE);
        x.setSessions(0, 1000);
        x.setSessions(1, 60);
        x.setLimit(200);
        x.fix(0, 1);
        x.fix(2, 3);
        return x;
    }

    /** All that can be asked of an object with few reports, in some 100 calls; what it sets to ask, it sets back. */
    static String stateOf(CrashBuckets x) {
        StringBuilder text = new StringBuilder();
        text.append(x.reports()).append(" reports in ").append(x.buckets());
        for (int report = 0; report < x.reports(); report++) {
            tellReport(text.append("; "), x, report);
        }
        for (int version = 0; version < 4; version++) {
            int sessions = x.setSessions(version, 0);
            x.setSessions(version, sessions);
            text.append("; ").append(sessions).append(' ').append(x.gate(version)).append(x.worst(version));
        }
        for (int function : new int[] {0, 1, 29}) {
            boolean was = x.ignore(function, false);
            x.ignore(function, was);
            int other = x.standFor(function, function);
            x.standFor(function, other);
            text.append("; ").append(was).append(' ').append(other);
        }
        int depth = x.setDepth(1);
        x.setDepth(depth);
        int limit = x.setLimit(1);
        x.setLimit(limit);
        return text.append("; ").append(depth).append(' ').append(limit).toString();
    }

    private static void tellReport(StringBuilder text, CrashBuckets x, int report) {
        for (int place = 0; place < 4; place++) {
            text.append(x.frame(report, place)).append('>').append(x.matters(report, place)).append(' ');
        }
        for (int version = 0; version < 4; version++) {
            text.append(x.rate(report, version)).append('/').append(x.users(report, version)).append(' ');
        }
        text.append(x.bucket(report)).append(' ').append(x.size(report)).append(' ').append(fixOf(x, report));
    }

    private static String fixOf(CrashBuckets x, int report) {
        boolean holds;
        try {
            holds = x.holds(report);
        } catch (IllegalStateException e) {
            return "no fix";
        }
        int version = x.fix(report, 1);
        x.fix(report, version);
        return version + " " + holds;
    }
}
