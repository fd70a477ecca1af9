/** Promises 13 to 20: setSessions, setLimit, rate, users, gate, worst, fix, holds. */
public final class RatesAndGatesTest {
    private static final int NONE = CrashBuckets.NONE;
    private static final int PASS = CrashBuckets.PASS;
    private static final int SLOW = CrashBuckets.SLOW;
    private static final int HOLD = CrashBuckets.HOLD;
    private static final int[] BAD_VERSIONS = {-1, 4, Integer.MIN_VALUE, Integer.MAX_VALUE};
    private static final int[] BAD_REPORTS = {-1, 1, 60, Integer.MIN_VALUE, Integer.MAX_VALUE};

    public static void main(String[] args) {
        promise13Sessions();
        promise14Limits();
        promise15Rates();
        promise15Arguments();
        promise16Users();
        promise16Arguments();
        promise17Sessions();
        promise17Limits();
        promise17Users();
        promise17OneBucketMustHaveBoth();
        promise17Arguments();
        promise18Worst();
        promise18Arguments();
        promise19Answers();
        promise19Arguments();
        promise20Twice();
        promise20Versions();
        promise20FollowsTheBucket();
        promise20Arguments();
        Check.end();
    }

    private static void tell(CrashBuckets x, int times, int version, int user, int address) {
        for (int time = 0; time < times; time++) {
            x.report(version, user, address, NONE, NONE, NONE);
        }
    }

    private static void promise13Sessions() {
        CrashBuckets x = new CrashBuckets();
        Check.due("13 at first", 0, x.setSessions(0, 1000000));
        Check.due("13 before", 1000000, x.setSessions(0, 0));
        Check.due("13 of each version", 0, x.setSessions(3, 5));
        Check.due("13 back at 0", 0, x.setSessions(0, 1));
        for (int bad : BAD_VERSIONS) {
            Check.dueArgument("13 version " + bad, () -> x.setSessions(bad, 0));
        }
        for (int bad : new int[] {-1, 1000001, Integer.MIN_VALUE, Integer.MAX_VALUE}) {
            Check.dueArgument("13 sessions " + bad, () -> x.setSessions(3, bad));
        }
        Check.due("13 throwing changed nothing", 5, x.setSessions(3, 6));
    }

    private static void promise14Limits() {
        CrashBuckets x = new CrashBuckets();
        Check.due("14 at first", 100, x.setLimit(1));
        Check.due("14 least", 1, x.setLimit(10000));
        Check.due("14 greatest", 10000, x.setLimit(7));
        for (int bad : new int[] {0, -1, 10001, Integer.MIN_VALUE, Integer.MAX_VALUE}) {
            Check.dueArgument("14 limit " + bad, () -> x.setLimit(bad));
        }
        Check.due("14 throwing changed nothing", 7, x.setLimit(8));
    }

    private static void promise15Rates() {
        CrashBuckets x = new CrashBuckets();
        tell(x, 2, 1, 0, 50);
        tell(x, 1, 1, 0, 60);
        Check.due("15 without sessions", 0, x.rate(0, 1));
        x.setSessions(1, 3);
        Check.due("15 rounded down", 6666, x.rate(0, 1));
        Check.due("15 of another of its reports", 6666, x.rate(1, 1));
        Check.due("15 of another bucket", 3333, x.rate(2, 1));
        Check.due("15 another version", 0, x.rate(0, 0));
        x.setSessions(0, 10);
        Check.due("15 no reports there", 0, x.rate(0, 0));
        x.setSessions(1, 1000000);
        Check.due("15 below 1", 0, x.rate(0, 1));
        x.setSessions(1, 20000);
        Check.due("15 just 1", 1, x.rate(0, 1));
        x.setSessions(1, 20001);
        Check.due("15 just below 1", 0, x.rate(0, 1));
        x.setSessions(1, 1);
        Check.due("15 above 10000", 20000, x.rate(0, 1));
        x.addRange(1, 50, 50, 3);
        x.addRange(0, 50, 50, 3);
        tell(x, 1, 0, 0, 50);
        Check.due("15 counts its own version", 1000, x.rate(0, 0));
        Check.due("15 counts its own version", 20000, x.rate(3, 1));
        tell(x, 56, 1, 0, 50);
        Check.due("15 greatest", 580000, x.rate(0, 1));
        x.setSessions(1, 0);
        Check.due("15 without sessions again", 0, x.rate(0, 1));
    }

    private static void promise15Arguments() {
        CrashBuckets x = new CrashBuckets();
        Check.dueIndex("15 no report", () -> x.rate(0, 0));
        tell(x, 1, 0, 0, 0);
        for (int bad : BAD_REPORTS) {
            Check.dueIndex("15 report " + bad, () -> x.rate(bad, 0));
            Check.dueIndex("15 report first " + bad, () -> x.rate(bad, 4));
        }
        for (int bad : BAD_VERSIONS) {
            Check.dueArgument("15 version " + bad, () -> x.rate(0, bad));
        }
    }

    private static void promise16Users() {
        CrashBuckets x = new CrashBuckets();
        x.addRange(0, 5, 6, 1);
        x.addRange(2, 5, 6, 1);
        tell(x, 2, 0, 19, 5);
        Check.due("16 one who reports twice", 1, x.users(0, 0));
        tell(x, 1, 0, 0, 6);
        Check.due("16 two", 2, x.users(0, 0));
        Check.due("16 of another of its reports", 2, x.users(2, 0));
        tell(x, 1, 2, 7, 5);
        tell(x, 1, 2, 19, 5);
        tell(x, 1, 2, 8, 7);
        Check.due("16 of this version", 2, x.users(0, 0));
        Check.due("16 of that version", 2, x.users(0, 2));
        Check.due("16 of none", 0, x.users(0, 1));
        Check.due("16 of another bucket", 1, x.users(5, 2));
        for (int user = 0; user < 20; user++) {
            tell(x, 1, 0, user, 5);
        }
        Check.due("16 all", 20, x.users(0, 0));
        x.setDepth(4);
        x.ignore(1, true);
        Check.due("16 split", 1, x.users(2, 0));
    }

    private static void promise16Arguments() {
        CrashBuckets x = new CrashBuckets();
        Check.dueIndex("16 no report", () -> x.users(0, 0));
        tell(x, 1, 0, 0, 0);
        for (int bad : BAD_REPORTS) {
            Check.dueIndex("16 report " + bad, () -> x.users(bad, 0));
            Check.dueIndex("16 report first " + bad, () -> x.users(bad, 4));
        }
        for (int bad : BAD_VERSIONS) {
            Check.dueArgument("16 version " + bad, () -> x.users(0, bad));
        }
    }

    private static void promise17Sessions() {
        CrashBuckets x = new CrashBuckets();
        Check.due("17 no sessions", SLOW, x.gate(0));
        x.setSessions(0, 49);
        Check.due("17 few sessions", SLOW, x.gate(0));
        x.setSessions(0, 50);
        Check.due("17 50 sessions", PASS, x.gate(0));
        tell(x, 1, 0, 0, 1);
        tell(x, 1, 0, 1, 1);
        Check.due("17 50 sessions and a bucket", HOLD, x.gate(0));
        x.setSessions(0, 49);
        Check.due("17 few sessions and a bucket", SLOW, x.gate(0));
        Check.due("17 another version", SLOW, x.gate(1));
        x.setSessions(1, 1000000);
        Check.due("17 another version with sessions", PASS, x.gate(1));
    }

    private static void promise17Limits() {
        CrashBuckets x = new CrashBuckets();
        tell(x, 1, 2, 0, 1);
        tell(x, 1, 2, 1, 1);
        x.setSessions(2, 200);
        Check.due("17 rate of the limit", HOLD, x.gate(2));
        x.setSessions(2, 201);
        Check.due("17 rate below the limit", SLOW, x.gate(2));
        x.setSessions(2, 400);
        Check.due("17 twice its rate of the limit", SLOW, x.gate(2));
        x.setSessions(2, 401);
        Check.due("17 twice its rate below the limit", PASS, x.gate(2));
        x.setLimit(99);
        Check.due("17 odd limit, twice its rate below", PASS, x.gate(2));
        x.setLimit(98);
        Check.due("17 lower limit", SLOW, x.gate(2));
        x.setLimit(49);
        Check.due("17 lowest of these", HOLD, x.gate(2));
        x.setLimit(10000);
        Check.due("17 greatest limit", PASS, x.gate(2));
    }

    private static void promise17Users() {
        CrashBuckets x = new CrashBuckets();
        x.setSessions(0, 100);
        tell(x, 5, 0, 3, 1);
        Check.due("17 one user", SLOW, x.gate(0));
        tell(x, 1, 1, 4, 1);
        Check.due("17 another user elsewhere", SLOW, x.gate(0));
        tell(x, 1, 0, 4, 1);
        Check.due("17 two users", HOLD, x.gate(0));
    }

    private static void promise17OneBucketMustHaveBoth() {
        CrashBuckets x = new CrashBuckets();
        x.setSessions(0, 100);
        x.setLimit(300);
        tell(x, 3, 0, 3, 1);
        tell(x, 1, 0, 4, 2);
        tell(x, 1, 0, 5, 2);
        Check.due("17 the rate here, the users there", SLOW, x.gate(0));
        tell(x, 1, 0, 6, 2);
        Check.due("17 a later bucket has both", HOLD, x.gate(0));
        x.setLimit(600);
        Check.due("17 several buckets are not added", SLOW, x.gate(0));
        x.setLimit(601);
        Check.due("17 several buckets are not added", PASS, x.gate(0));
    }

    private static void promise17Arguments() {
        CrashBuckets x = new CrashBuckets();
        for (int bad : BAD_VERSIONS) {
            Check.dueArgument("17 version " + bad, () -> x.gate(bad));
        }
    }

    private static void promise18Worst() {
        CrashBuckets x = new CrashBuckets();
        x.setSessions(0, 100);
        Check.due("18 no reports", NONE, x.worst(0));
        tell(x, 1, 0, 0, 1);
        tell(x, 2, 0, 0, 2);
        tell(x, 2, 0, 0, 3);
        Check.due("18 of several the lowest name", 1, x.worst(0));
        tell(x, 1, 0, 0, 3);
        Check.due("18 the greatest", 3, x.worst(0));
        Check.due("18 without sessions", NONE, x.worst(1));
        x.setSessions(1, 100);
        Check.due("18 without reports there", NONE, x.worst(1));
        x.setSessions(0, 0);
        Check.due("18 its sessions are gone", NONE, x.worst(0));
        x.setSessions(0, 1000000);
        Check.due("18 all rates rounded to 0", NONE, x.worst(0));
        x.setSessions(0, 15001);
        Check.due("18 rates that rounding makes alike", 1, x.worst(0));
        x.setSessions(0, 20001);
        Check.due("18 all others rounded to 0", 3, x.worst(0));
    }

    private static void promise18Arguments() {
        CrashBuckets x = new CrashBuckets();
        for (int bad : BAD_VERSIONS) {
            Check.dueArgument("18 version " + bad, () -> x.worst(bad));
        }
    }

    private static void promise19Answers() {
        CrashBuckets x = new CrashBuckets();
        tell(x, 3, 0, 0, 1);
        Check.due("19 none at first", NONE, x.fix(0, 1));
        Check.due("19 the one before", 1, x.fix(0, 3));
        Check.due("19 a new one takes its place", 3, x.fix(0, 2));
        Check.due("19 of each report, not of the bucket", NONE, x.fix(2, 2));
        Check.due("19 the other one stays", 2, x.fix(0, 1));
    }

    private static void promise19Arguments() {
        CrashBuckets x = new CrashBuckets();
        Check.dueIndex("19 no report", () -> x.fix(0, 1));
        tell(x, 1, 0, 0, 0);
        for (int bad : BAD_REPORTS) {
            Check.dueIndex("19 report " + bad, () -> x.fix(bad, 1));
            Check.dueIndex("19 report first " + bad, () -> x.fix(bad, 0));
        }
        for (int bad : new int[] {0, -1, 4, Integer.MIN_VALUE, Integer.MAX_VALUE}) {
            Check.dueArgument("19 version " + bad, () -> x.fix(0, bad));
        }
        Check.due("19 throwing told none", NONE, x.fix(0, 1));
        Check.dueArgument("19 version 0", () -> x.fix(0, 0));
        Check.due("19 throwing changed nothing", 1, x.fix(0, 1));
    }

    /** All of the version's reports at this address in one bucket, whatever the version. */
    private static CrashBuckets joined() {
        CrashBuckets x = new CrashBuckets();
        for (int version = 0; version < 4; version++) {
            x.addRange(version, 0, 9, 7);
        }
        return x;
    }

    private static void promise20Twice() {
        CrashBuckets x = joined();
        tell(x, 4, 0, 0, 1);
        tell(x, 2, 1, 0, 1);
        x.setSessions(0, 100);
        x.setSessions(1, 100);
        x.fix(0, 1);
        Check.due("20 just half", true, x.holds(0));
        x.setSessions(1, 99);
        Check.due("20 a little more than half", false, x.holds(0));
        x.setSessions(1, 101);
        Check.due("20 a little less than half", true, x.holds(0));
        x.setSessions(0, 101);
        x.setSessions(1, 99);
        Check.due("20 earlier one lower", false, x.holds(0));
        x.setSessions(1, 0);
        Check.due("20 without sessions nothing is asked", true, x.holds(0));
        x.setSessions(1, 1);
        x.setSessions(0, 0);
        Check.due("20 no earlier rate", false, x.holds(0));
        x.setSessions(1, 1000000);
        Check.due("20 no rate and no earlier rate", true, x.holds(0));
    }

    private static void promise20Versions() {
        CrashBuckets x = joined();
        tell(x, 1, 0, 0, 1);
        tell(x, 8, 1, 0, 2);
        tell(x, 4, 2, 0, 3);
        tell(x, 3, 3, 0, 4);
        for (int version = 0; version < 4; version++) {
            x.setSessions(version, 100);
        }
        x.fix(0, 2);
        Check.due("20 the greatest of the earlier ones", true, x.holds(0));
        Check.dueState("20 the fix is of one report", () -> x.holds(1));
        x.fix(0, 1);
        Check.due("20 earlier ones alone", false, x.holds(0));
        x.fix(0, 3);
        Check.due("20 from the last one on", true, x.holds(0));
        x.setSessions(3, 50);
        x.fix(0, 2);
        Check.due("20 each from this one on", false, x.holds(0));
        x.setSessions(3, 100);
        x.setSessions(2, 99);
        Check.due("20 this one too", false, x.holds(0));
        x.setSessions(0, 10);
        Check.due("20 the first is the greatest now", true, x.holds(0));
        x.setSessions(1, 0);
        x.setSessions(2, 0);
        x.fix(0, 3);
        Check.due("20 those without sessions are passed over", true, x.holds(0));
    }

    private static void promise20FollowsTheBucket() {
        CrashBuckets x = joined();
        tell(x, 2, 0, 0, 1);
        x.report(1, 0, 1, 500, NONE, NONE);
        x.setSessions(0, 100);
        x.setSessions(1, 100);
        x.fix(1, 1);
        Check.due("20 holds", true, x.holds(1));
        tell(x, 1, 1, 0, 9);
        Check.due("20 a later report breaks it", false, x.holds(1));
        x.addRange(1, 500, 500, 8);
        Check.due("20 the bucket as it is now", true, x.holds(1));
        x.ignore(8, true);
        Check.due("20 joined again", false, x.holds(1));
    }

    private static void promise20Arguments() {
        CrashBuckets x = new CrashBuckets();
        Check.dueIndex("20 no report", () -> x.holds(0));
        tell(x, 1, 0, 0, 0);
        Check.dueState("20 no fix", () -> x.holds(0));
        for (int bad : BAD_REPORTS) {
            Check.dueIndex("20 report " + bad, () -> x.holds(bad));
        }
        x.fix(0, 3);
        Check.due("20 no sessions at all", true, x.holds(0));
    }
}
