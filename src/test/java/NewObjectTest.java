/** Promise 1: what a new object answers, and for how long one is used. */
public final class NewObjectTest {
    private static final int NONE = CrashBuckets.NONE;

    public static void main(String[] args) {
        Check.runAll(NewObjectTest.class);
    }

    @Promise(number = 1, says = "Empty maps, no reports.")
    static void mapsAreEmpty() {
        CrashBuckets x = new CrashBuckets();
        for (int version = 0; version < 4; version++) {
            int report = x.report(version, 0, 0, 1, 5000, 9999);
            for (int place = 0; place < 4; place++) {
                Check.due("frame in version " + version, NONE, x.frame(report, place));
                Check.due("matters in version " + version, NONE, x.matters(report, place));
            }
            Check.due("ranges with the first one", 1, x.addRange(version, 0, 9999, 0));
        }
    }

    @Promise(number = 1, says = "Empty maps, no reports.")
    static void thereAreNoReports() {
        CrashBuckets x = new CrashBuckets();
        Check.due("reports", 0, x.reports());
        Check.due("buckets", 0, x.buckets());
        for (int version = 0; version < 4; version++) {
            Check.due("worst", NONE, x.worst(version));
        }
        Check.dueIndex("frame", () -> x.frame(0, 0));
        Check.dueIndex("matters", () -> x.matters(0, 0));
        Check.dueIndex("bucket", () -> x.bucket(0));
        Check.dueIndex("size", () -> x.size(0));
        Check.dueIndex("rate", () -> x.rate(0, 0));
        Check.dueIndex("users", () -> x.users(0, 0));
        Check.dueIndex("fix", () -> x.fix(0, 1));
        Check.dueIndex("holds", () -> x.holds(0));
        Check.due("the first one's number", 0, x.report(0, 0, 0, NONE, NONE, NONE));
    }

    @Promise(number = 1, says = "A function can be ignored, at first none is")
    static void noFunctionIsIgnored() {
        CrashBuckets x = new CrashBuckets();
        Scene.mapAll(x, 0);
        for (int function = 0; function < 30; function++) {
            int report = x.report(0, 0, function * 10, NONE, NONE, NONE);
            Check.due("matters", function, x.matters(report, 0));
            Check.due("was ignored", false, x.ignore(function, false));
        }
    }

    @Promise(number = 1, says = "it can stand for another one, at first each stands for itself")
    static void eachFunctionStandsForItself() {
        CrashBuckets x = new CrashBuckets();
        Scene.mapAll(x, 3);
        for (int function = 0; function < 30; function++) {
            int report = x.report(3, 0, function * 10, NONE, NONE, NONE);
            Check.due("matters", function, x.matters(report, 0));
            Check.due("stood for", function, x.standFor(function, function));
        }
    }

    @Promise(number = 1, says = "as many as the depth tells, which is 2 at first")
    static void theDepthIs2() {
        CrashBuckets x = new CrashBuckets();
        x.addRange(0, 0, 9, 8);
        int report = x.report(0, 0, 0, 1, 2, 3);
        Check.due("second", 8, x.matters(report, 1));
        Check.due("third", NONE, x.matters(report, 2));
        Check.due("depth", 2, x.setDepth(2));
    }

    @Promise(number = 1, says = "A version has sessions, 0 at first.")
    static void versionsHaveNoSessions() {
        CrashBuckets x = new CrashBuckets();
        for (int version = 0; version < 4; version++) {
            int report = x.report(version, 0, 0, NONE, NONE, NONE);
            Check.due("rate", 0, x.rate(report, version));
            Check.due("gate", CrashBuckets.SLOW, x.gate(version));
            Check.due("sessions", 0, x.setSessions(version, 0));
        }
    }

    @Promise(number = 1, says = "With a limit, which is 100 at first")
    static void theLimitIs100() {
        CrashBuckets x = new CrashBuckets();
        Scene.tell(x, 1, 0, 0, 5);
        Scene.tell(x, 1, 0, 1, 5);
        x.setSessions(0, 200);
        Check.due("gate with a rate of 100", CrashBuckets.HOLD, x.gate(0));
        x.setSessions(0, 201);
        Check.due("gate with a rate of 99", CrashBuckets.SLOW, x.gate(0));
        Check.due("limit", 100, x.setLimit(100));
    }

    @Promise(number = 1, says = "Empty maps, no reports.")
    static void whatIsToldToOneIsNotToldToAnother() {
        CrashBuckets told = Scene.busy();
        CrashBuckets x = new CrashBuckets();
        Check.due("reports of the one", 3, told.reports());
        Check.due("reports", 0, x.reports());
        Check.due("ranges", 1, x.addRange(0, 0, 99, 29));
        Check.due("ignored", false, x.ignore(29, false));
        Check.due("stood for", 0, x.standFor(0, 0));
        Check.due("depth", 2, x.setDepth(2));
        Check.due("sessions", 0, x.setSessions(0, 0));
        Check.due("limit", 100, x.setLimit(100));
        Check.due("number", 0, x.report(0, 0, 50, NONE, NONE, NONE));
        Check.due("fix", NONE, x.fix(0, 1));
    }

    @Promise(number = 1, says = "An object is used for at most 512 calls after it has been made")
    static void theLastOf512CallsAnswersStill() {
        CrashBuckets x = new CrashBuckets();
        int calls = 0;
        for (int version = 0; version < 4; version++) {
            Scene.mapAll(x, version);
            calls += 30;
        }
        for (int report = 0; report < 60; report++) {
            x.report(report % 4, report % 20, 0, 10, 20, 30);
            calls++;
        }
        boolean is = false;
        while (calls < 510) {
            Check.due("was ignored at call " + calls, is, x.ignore(0, !is));
            is = !is;
            calls++;
        }
        Check.due("call 511", 0, x.matters(59, 0));
        Check.due("call 512", 60, x.size(59));
    }

    @Promise(number = 1, says = "There is none, or unknown.")
    static void theConstants() {
        Check.due("NONE", -1, CrashBuckets.NONE);
        Check.due("PASS", 0, CrashBuckets.PASS);
        Check.due("SLOW", 1, CrashBuckets.SLOW);
        Check.due("HOLD", 2, CrashBuckets.HOLD);
    }
}
