/** Promises 17 to 20: gate, worst, fix, holds. */
public final class GatesAndFixesTest {
    private static final int NONE = CrashBuckets.NONE;
    private static final int PASS = CrashBuckets.PASS;
    private static final int SLOW = CrashBuckets.SLOW;
    private static final int HOLD = CrashBuckets.HOLD;

    public static void main(String[] args) {
        Check.runAll(GatesAndFixesTest.class);
    }

    // ---- gate

    @Promise(number = 17, says = "is HOLD, if it has 50 sessions or more")
    static void holdFrom50Sessions() {
        CrashBuckets x = new CrashBuckets();
        Scene.tell(x, 1, 0, 0, 1);
        Scene.tell(x, 1, 0, 1, 1);
        x.setSessions(0, 49);
        Check.due("49 sessions", SLOW, x.gate(0));
        x.setSessions(0, 50);
        Check.due("50 sessions", HOLD, x.gate(0));
        x.setSessions(0, 51);
        Check.due("51 sessions", HOLD, x.gate(0));
        x.setSessions(0, 1);
        Check.due("1 session", SLOW, x.gate(0));
    }

    @Promise(number = 17, says = "there is a bucket with a rate there of the limit or more")
    static void holdFromARateOfTheLimit() {
        CrashBuckets x = new CrashBuckets();
        Scene.tell(x, 1, 2, 0, 1);
        Scene.tell(x, 1, 2, 1, 1);
        x.setSessions(2, 200);
        x.setLimit(101);
        Check.due("one below the limit", SLOW, x.gate(2));
        x.setLimit(100);
        Check.due("the limit", HOLD, x.gate(2));
        x.setLimit(99);
        Check.due("one above the limit", HOLD, x.gate(2));
    }

    @Promise(number = 17, says = "there is a bucket with a rate there of the limit or more")
    static void holdAtTheLeastAndGreatestLimit() {
        CrashBuckets x = new CrashBuckets();
        Scene.tell(x, 49, 0, 0, 1);
        Scene.tell(x, 1, 0, 1, 1);
        x.setSessions(0, 50);
        x.setLimit(10000);
        Check.due("a rate of 10000", HOLD, x.gate(0));
        x.setSessions(0, 51);
        Check.due("a rate of 9803", SLOW, x.gate(0));
        x.setLimit(1);
        x.setSessions(0, 500000);
        Check.due("a rate of 1", HOLD, x.gate(0));
        x.setSessions(0, 500001);
        Check.due("a rate that is rounded to 0", PASS, x.gate(0));
    }

    @Promise(number = 17, says = "and 2 users there or more")
    static void holdFrom2Users() {
        CrashBuckets x = Scene.joined();
        x.setSessions(0, 100);
        Scene.tell(x, 5, 0, 3, 1);
        Check.due("one user", SLOW, x.gate(0));
        Scene.tell(x, 1, 1, 4, 1);
        Check.due("another user in another version", SLOW, x.gate(0));
        Scene.tell(x, 1, 0, 4, 50);
        Check.due("another user in another bucket", SLOW, x.gate(0));
        Scene.tell(x, 1, 0, 4, 2);
        Check.due("two users", HOLD, x.gate(0));
        Scene.tell(x, 1, 0, 5, 2);
        Check.due("three users", HOLD, x.gate(0));
    }

    @Promise(number = 17, says = "there is a bucket with a rate there of the limit or more, and 2 users there or more")
    static void holdWantsBothOfOneBucket() {
        CrashBuckets x = new CrashBuckets();
        x.setSessions(0, 100);
        x.setLimit(300);
        Scene.tell(x, 3, 0, 3, 1);
        Scene.tell(x, 1, 0, 4, 2);
        Scene.tell(x, 1, 0, 5, 2);
        Check.due("the rate here, the users there", SLOW, x.gate(0));
        Scene.tell(x, 1, 0, 6, 2);
        Check.due("both in the later one", HOLD, x.gate(0));
        x.setLimit(601);
        Check.due("rates of several are not added", PASS, x.gate(0));
    }

    @Promise(number = 17, says = "otherwise SLOW, if there is a bucket with twice its rate there at the limit or more")
    static void slowFromTwiceTheRateAtTheLimit() {
        CrashBuckets x = new CrashBuckets();
        x.report(2, 0, 1, NONE, NONE, NONE);
        x.setSessions(2, 1000);
        x.setLimit(19);
        Check.due("twice its rate above the limit", SLOW, x.gate(2));
        x.setLimit(20);
        Check.due("twice its rate at the limit", SLOW, x.gate(2));
        x.setLimit(21);
        Check.due("twice its rate one below the limit", PASS, x.gate(2));
    }

    @Promise(number = 17, says = "Divisions are rounded down.")
    static void slowByTwiceTheRoundedRate() {
        CrashBuckets x = new CrashBuckets();
        x.report(2, 0, 1, NONE, NONE, NONE);
        x.setSessions(2, 1001);
        x.setLimit(19);
        Check.due("twice 9, not twice 9.99", PASS, x.gate(2));
        x.setLimit(18);
        Check.due("twice 9", SLOW, x.gate(2));
    }

    @Promise(number = 17, says = "otherwise SLOW, if there is a bucket with twice its rate there at the limit or more")
    static void slowByALaterBucket() {
        CrashBuckets x = new CrashBuckets();
        x.setSessions(0, 1000);
        Scene.tell(x, 1, 0, 0, 1);
        Scene.tell(x, 5, 0, 0, 2);
        Scene.tell(x, 1, 0, 0, 3);
        Check.due("the second of three", SLOW, x.gate(0));
        x.setLimit(101);
        Check.due("none of three", PASS, x.gate(0));
    }

    @Promise(number = 17, says = "or it has fewer than 50 sessions")
    static void slowBelow50Sessions() {
        CrashBuckets x = new CrashBuckets();
        Scene.tell(x, 1, 1, 0, 1);
        x.setSessions(0, 0);
        Check.due("0 sessions, no reports", SLOW, x.gate(0));
        x.setSessions(0, 49);
        Check.due("49 sessions, no reports", SLOW, x.gate(0));
        x.setSessions(0, 50);
        Check.due("50 sessions, no reports", PASS, x.gate(0));
        x.setLimit(10000);
        x.setSessions(1, 49);
        Check.due("49 sessions, a low rate", SLOW, x.gate(1));
        x.setSessions(1, 50);
        Check.due("50 sessions, a low rate", PASS, x.gate(1));
    }

    @Promise(number = 17, says = "otherwise PASS")
    static void passWithoutReports() {
        CrashBuckets x = new CrashBuckets();
        x.setLimit(1);
        for (int version = 0; version < 4; version++) {
            x.setSessions(version, 1000000);
            Check.due("no reports at all", PASS, x.gate(version));
        }
        Scene.tell(x, 30, 3, 0, 1);
        Scene.tell(x, 30, 3, 1, 1);
        x.setSessions(3, 50);
        Check.due("no reports of this version", PASS, x.gate(0));
        Check.due("all reports of this version", HOLD, x.gate(3));
    }

    @Promise(number = 17, says = "`version`: 0 to 3")
    static void gateVersion() {
        CrashBuckets x = new CrashBuckets();
        x.setSessions(0, 50);
        x.setSessions(3, 50);
        for (int bad : Check.outside(0, 3)) {
            Check.dueArgument("version " + bad, () -> x.gate(bad));
        }
        Check.due("version 0", PASS, x.gate(0));
        Check.due("version 1", SLOW, x.gate(1));
        Check.due("version 2", SLOW, x.gate(2));
        Check.due("version 3", PASS, x.gate(3));
    }

    @Promise(number = 17, says = "always by all that has been told so far")
    static void gateOfBucketsThatSplitAndJoin() {
        CrashBuckets x = Scene.splittable();
        x.setSessions(0, 100);
        x.setLimit(300);
        Check.due("three by their first addresses", PASS, x.gate(0));
        x.addRange(0, 0, 9, 1);
        Check.due("one by the map", HOLD, x.gate(0));
        x.addRange(0, 10, 19, 2);
        Check.due("two by the map", SLOW, x.gate(0));
        x.setDepth(1);
        Check.due("one by the depth", HOLD, x.gate(0));
        x.ignore(1, true);
        Check.due("two by what is ignored", SLOW, x.gate(0));
        x.addRange(0, 20, 29, 3);
        x.standFor(3, 2);
        Check.due("one by what stands for another", HOLD, x.gate(0));
        x.standFor(3, 3);
        Check.due("two by what stands for itself again", SLOW, x.gate(0));
        x.setSessions(0, 200);
        Check.due("two with more sessions", PASS, x.gate(0));
        x.setLimit(100);
        Check.due("two with a lower limit", HOLD, x.gate(0));
    }

    @Promise(number = 17, says = "Reports are numbered from 0; there are at most 60.")
    static void gateWith60Reports() {
        CrashBuckets x = new CrashBuckets();
        for (int told = 0; told < 58; told++) {
            x.report(0, 0, told, NONE, NONE, NONE);
        }
        Scene.tell(x, 1, 0, 0, 9999);
        Scene.tell(x, 1, 0, 1, 9999);
        x.setSessions(0, 50);
        x.setLimit(400);
        Check.due("the last bucket holds", HOLD, x.gate(0));
        x.setLimit(800);
        Check.due("the last bucket slows", SLOW, x.gate(0));
        x.setLimit(801);
        Check.due("all 59 buckets pass", PASS, x.gate(0));
    }

    @Promise(number = 17, says = "A call that throws changes nothing.")
    static void refusedGateChangesNothing() {
        CrashBuckets x = Scene.busy();
        String before = Scene.stateOf(x);
        Check.dueArgument("version 4", () -> x.gate(4));
        Check.dueArgument("version -1", () -> x.gate(-1));
        Check.dueText("after it", before, Scene.stateOf(x));
    }

    // ---- worst

    @Promise(number = 18, says = "Returns the bucket with the greatest rate in a version")
    static void worstByRate() {
        CrashBuckets x = Scene.joined();
        for (int version = 0; version < 4; version++) {
            x.setSessions(version, 100);
        }
        Scene.tell(x, 1, 0, 0, 500);
        Scene.tell(x, 2, 0, 0, 501);
        Scene.tell(x, 3, 1, 0, 5);
        Scene.tell(x, 1, 0, 0, 5);
        Check.due("the greatest in version 0", 1, x.worst(0));
        Check.due("the greatest in version 1", 3, x.worst(1));
        Scene.tell(x, 2, 0, 0, 6);
        Check.due("named by a report of another version", 3, x.worst(0));
        Scene.tell(x, 4, 0, 0, 9999);
        Check.due("the last one", 9, x.worst(0));
    }

    @Promise(number = 18, says = "of several the one with the lowest name")
    static void worstOfSeveral() {
        CrashBuckets x = new CrashBuckets();
        x.setSessions(0, 100);
        Scene.tell(x, 1, 0, 0, 1);
        Scene.tell(x, 2, 0, 0, 3);
        Scene.tell(x, 2, 0, 0, 2);
        Check.due("the lower name, not the lower address", 1, x.worst(0));
        Scene.tell(x, 1, 0, 0, 1);
        Check.due("three alike", 0, x.worst(0));
        Scene.tell(x, 1, 0, 0, 2);
        Check.due("the last one alone", 3, x.worst(0));
    }

    @Promise(number = 18, says = "Divisions are rounded down.")
    static void worstOfRatesThatRoundingMakesAlike() {
        CrashBuckets x = new CrashBuckets();
        Scene.tell(x, 2, 0, 0, 1);
        Scene.tell(x, 3, 0, 0, 2);
        x.setSessions(0, 15001);
        Check.due("1.33 and 1.99", 0, x.worst(0));
        x.setSessions(0, 15000);
        Check.due("1.33 and 2", 2, x.worst(0));
        x.setSessions(0, 20001);
        Check.due("0.99 and 1.49", 2, x.worst(0));
    }

    @Promise(number = 18, says = "always by all that has been told so far")
    static void worstOfBucketsThatSplitAndJoin() {
        CrashBuckets x = Scene.splittable();
        x.setSessions(0, 100);
        Scene.tell(x, 2, 0, 0, 500);
        Check.due("three of one report each", 3, x.worst(0));
        x.addRange(0, 0, 9, 1);
        Check.due("three joined by the map", 0, x.worst(0));
        x.addRange(0, 10, 19, 2);
        Check.due("split by the map", 1, x.worst(0));
        x.setDepth(1);
        Check.due("joined by the depth", 0, x.worst(0));
        x.ignore(1, true);
        Check.due("split by what is ignored", 1, x.worst(0));
        x.addRange(0, 20, 29, 3);
        x.standFor(3, 2);
        Check.due("joined by what stands for another", 0, x.worst(0));
        x.standFor(3, 3);
        Check.due("split by what stands for itself again", 1, x.worst(0));
        Scene.tell(x, 1, 0, 0, 500);
        Check.due("a report more", 3, x.worst(0));
    }

    @Promise(number = 18, says = "NONE if all rates there are 0.")
    static void worstOfNone() {
        CrashBuckets x = new CrashBuckets();
        x.setSessions(0, 100);
        Check.due("no reports", NONE, x.worst(0));
        Scene.tell(x, 2, 0, 0, 1);
        x.setSessions(1, 100);
        Check.due("no reports of this version", NONE, x.worst(1));
        x.setSessions(0, 0);
        Check.due("no sessions", NONE, x.worst(0));
        x.setSessions(0, 20001);
        Check.due("a rate that is rounded to 0", NONE, x.worst(0));
        x.setSessions(0, 20000);
        Check.due("a rate of 1", 0, x.worst(0));
    }

    @Promise(number = 18, says = "`version`: 0 to 3")
    static void worstVersion() {
        CrashBuckets x = new CrashBuckets();
        for (int version = 0; version < 4; version++) {
            x.setSessions(version, 1);
            Scene.tell(x, 1, version, 0, 5);
        }
        for (int bad : Check.outside(0, 3)) {
            Check.dueArgument("version " + bad, () -> x.worst(bad));
        }
        for (int version = 0; version < 4; version++) {
            Check.due("version " + version, version, x.worst(version));
        }
    }

    @Promise(number = 18, says = "Reports are numbered from 0; there are at most 60.")
    static void worstWith60Reports() {
        CrashBuckets x = new CrashBuckets();
        x.setSessions(3, 1000000);
        x.setSessions(2, 1);
        for (int told = 0; told < 59; told++) {
            x.report(3, 0, told, NONE, NONE, NONE);
        }
        x.report(2, 0, 0, NONE, NONE, NONE);
        Check.due("the last of 60", 59, x.worst(2));
        Check.due("all 60 rounded to 0", NONE, x.worst(3));
        x.setSessions(3, 10000);
        Check.due("59 alike", 0, x.worst(3));
    }

    @Promise(number = 18, says = "A call that throws changes nothing.")
    static void refusedWorstChangesNothing() {
        CrashBuckets x = Scene.busy();
        String before = Scene.stateOf(x);
        Check.dueArgument("version 4", () -> x.worst(4));
        Check.dueArgument("version -1", () -> x.worst(-1));
        Check.dueText("after it", before, Scene.stateOf(x));
    }

    // ---- fix

    @Promise(number = 19, says = "Returns from which version on the fix before was; NONE without one.")
    static void fixBefore() {
        CrashBuckets x = new CrashBuckets();
        Scene.tell(x, 60, 0, 0, 1);
        Check.due("none at first", NONE, x.fix(0, 1));
        Check.due("then 1", 1, x.fix(0, 3));
        Check.due("then 3", 3, x.fix(0, 2));
        Check.due("then 2", 2, x.fix(0, 2));
        Check.due("the same again", 2, x.fix(0, 1));
        Check.due("none of the last report", NONE, x.fix(59, 3));
        Check.due("then 3 of the last report", 3, x.fix(59, 1));
    }

    @Promise(number = 19, says = "a report has at most one fix, a new one takes the place of the one before")
    static void fixOfEachReport() {
        CrashBuckets x = new CrashBuckets();
        Scene.tell(x, 3, 0, 0, 1);
        x.fix(1, 2);
        Check.due("not of another report of the bucket", NONE, x.fix(2, 3));
        Check.due("its own stays", 2, x.fix(1, 1));
        Check.dueState("a report without one", () -> x.holds(0));
    }

    @Promise(number = 19, says = "a report has at most one fix, a new one takes the place of the one before")
    static void fixTakesThePlaceOfTheOneBefore() {
        CrashBuckets x = Scene.joined();
        Scene.tell(x, 1, 0, 0, 1);
        Scene.tell(x, 1, 1, 0, 1);
        x.setSessions(0, 100);
        x.setSessions(1, 100);
        x.fix(0, 1);
        Check.due("from 1 on", false, x.holds(0));
        x.fix(0, 2);
        Check.due("from 2 on, and not from 1 on any more", true, x.holds(0));
        x.fix(0, 1);
        Check.due("from 1 on again", false, x.holds(0));
    }

    @Promise(number = 19, says = "`version`: 1 to 3: from which version on")
    static void fixVersion() {
        CrashBuckets x = new CrashBuckets();
        Scene.tell(x, 1, 0, 0, 1);
        for (int bad : Check.outside(1, 3)) {
            Check.dueArgument("version " + bad, () -> x.fix(0, bad));
        }
        Check.due("version 1", NONE, x.fix(0, 1));
        Check.due("version 3", 1, x.fix(0, 3));
        Check.due("it was taken", 3, x.fix(0, 2));
    }

    @Promise(number = 19, says = "`IndexOutOfBoundsException` if there is no such report")
    static void fixOfNoReport() {
        CrashBuckets x = new CrashBuckets();
        Check.dueIndex("no reports at all", () -> x.fix(0, 1));
        Scene.tell(x, 1, 0, 0, 0);
        for (int bad : Check.outside(0, 0)) {
            Check.dueIndex("report " + bad + " of 1", () -> x.fix(bad, 1));
        }
        Scene.tell(x, 59, 0, 0, 1);
        for (int bad : Check.outside(0, 59)) {
            Check.dueIndex("report " + bad + " of 60", () -> x.fix(bad, 1));
        }
        Check.due("the first", NONE, x.fix(0, 1));
        Check.due("the last", NONE, x.fix(59, 1));
    }

    @Promise(number = 19, says = "if several apply, the one that it lists first is thrown")
    static void fixIndexComesFirst() {
        CrashBuckets x = new CrashBuckets();
        Check.dueIndex("no reports, version 0", () -> x.fix(0, 0));
        Scene.tell(x, 1, 0, 0, 0);
        Check.dueIndex("report 1, version 4", () -> x.fix(1, 4));
        Check.dueIndex("report -1, version 0", () -> x.fix(-1, 0));
    }

    @Promise(number = 19, says = "A call that throws changes nothing.")
    static void refusedFixChangesNothing() {
        CrashBuckets x = Scene.busy();
        String before = Scene.stateOf(x);
        for (int report = 0; report < 3; report++) {
            int of = report;
            for (int bad : Check.outside(1, 3)) {
                Check.dueArgument("version " + bad, () -> x.fix(of, bad));
            }
        }
        for (int bad : Check.outside(0, 2)) {
            Check.dueIndex("report " + bad, () -> x.fix(bad, 2));
        }
        Check.dueText("after it", before, Scene.stateOf(x));
        Check.due("fix of the last", 3, x.fix(2, 1));
        Check.due("no fix", NONE, x.fix(1, 1));
        Check.due("number", 3, x.report(0, 0, 0, NONE, NONE, NONE));
        Check.due("no fix of the next report", NONE, x.fix(3, 1));
    }

    // ---- holds

    private static CrashBuckets withReports(int first, int second, int third, int fourth) {
        CrashBuckets x = Scene.joined();
        Scene.tell(x, first, 0, 0, 1);
        Scene.tell(x, second, 1, 0, 2);
        Scene.tell(x, third, 2, 0, 3);
        Scene.tell(x, fourth, 3, 0, 4);
        for (int version = 0; version < 4; version++) {
            x.setSessions(version, 100);
        }
        return x;
    }

    @Promise(number = 20, says = "twice its rate at most as great as its greatest rate")
    static void holdsUpToHalf() {
        CrashBuckets x = withReports(4, 2, 0, 0);
        x.fix(0, 1);
        Check.due("just half", true, x.holds(0));
        x.setSessions(1, 99);
        Check.due("a little more than half", false, x.holds(0));
        x.setSessions(1, 101);
        Check.due("a little less than half", true, x.holds(0));
        x.setSessions(1, 100);
        x.setSessions(0, 101);
        Check.due("half of a little less", false, x.holds(0));
        x.setSessions(0, 99);
        Check.due("half of a little more", true, x.holds(0));
    }

    @Promise(number = 20, says = "Divisions are rounded down.")
    static void holdsByRoundedRates() {
        CrashBuckets x = withReports(1, 1, 0, 0);
        x.fix(0, 1);
        x.setSessions(0, 1250);
        x.setSessions(1, 2001);
        Check.due("twice 4, not twice 4.99, against 8", true, x.holds(0));
        x.setSessions(0, 1001);
        x.setSessions(1, 2000);
        Check.due("twice 5 against 9, not against 9.99", false, x.holds(0));
    }

    @Promise(number = 20, says = "in each version from this one on")
    static void holdsInEachVersionFromThisOneOn() {
        CrashBuckets x = withReports(8, 4, 4, 4);
        x.fix(0, 1);
        Check.due("all just half", true, x.holds(0));
        for (int version = 1; version < 4; version++) {
            x.setSessions(version, 99);
            Check.due("version " + version + " more than half", false, x.holds(0));
            x.setSessions(version, 100);
        }
        x.setSessions(1, 99);
        x.fix(0, 2);
        Check.due("from version 2 on", true, x.holds(0));
        x.setSessions(2, 20);
        x.fix(0, 3);
        Check.due("from version 3 on", true, x.holds(0));
    }

    @Promise(number = 20, says = "in each version from this one on that has sessions")
    static void holdsWithoutSessionsOfLaterVersions() {
        CrashBuckets x = withReports(1, 10, 10, 10);
        x.fix(0, 1);
        Check.due("with sessions", false, x.holds(0));
        for (int version = 1; version < 4; version++) {
            x.setSessions(version, 0);
            Check.due("without those up to " + version, version == 3, x.holds(0));
        }
        x.setSessions(2, 1);
        Check.due("with one session", false, x.holds(0));
    }

    @Promise(number = 20, says = "its greatest rate in the versions earlier than that of the fix")
    static void holdsByTheGreatestOfTheEarlierVersions() {
        CrashBuckets x = withReports(1, 8, 2, 4);
        x.fix(0, 3);
        Check.due("the middle one of three", true, x.holds(0));
        x.fix(0, 2);
        Check.due("the last one of two", true, x.holds(0));
        x.fix(0, 1);
        Check.due("the only one", false, x.holds(0));
        x.setSessions(1, 101);
        x.fix(0, 3);
        Check.due("the greatest a little less", false, x.holds(0));
        x.setSessions(0, 12);
        Check.due("the first one of three", true, x.holds(0));
    }

    @Promise(number = 20, says = "its greatest rate in the versions earlier than that of the fix")
    static void holdsNotByTheSumOfTheEarlierVersions() {
        CrashBuckets x = withReports(1, 0, 0, 1);
        x.fix(0, 3);
        x.setSessions(3, 196);
        Check.due("twice 51 against 100, 0 and 0", false, x.holds(0));
        x.setSessions(3, 200);
        Check.due("twice 50 against 100, 0 and 0", true, x.holds(0));
        Scene.tell(x, 1, 1, 0, 1);
        Scene.tell(x, 1, 2, 0, 1);
        x.setSessions(3, 196);
        Check.due("twice 51 against 100, 100 and 100", false, x.holds(0));
    }

    @Promise(number = 20, says = "its greatest rate in the versions earlier than that of the fix")
    static void holdsNotByTheVersionOfTheFix() {
        CrashBuckets x = withReports(1, 1, 10, 1);
        x.setSessions(2, 0);
        x.fix(0, 3);
        Check.due("twice 100 against 100", false, x.holds(0));
        x.setSessions(2, 100);
        Check.due("twice 100 against 1000", true, x.holds(0));
        x.fix(0, 2);
        Check.due("its own version is none of the earlier ones", false, x.holds(0));
    }

    @Promise(number = 20, says = "The rate of a bucket in a version is 10000 times the number of its reports of this "
            + "version, divided by the sessions; 0 without sessions.")
    static void holdsByARateOf0WithoutEarlierSessions() {
        CrashBuckets x = withReports(5, 1, 0, 0);
        x.setSessions(0, 0);
        x.fix(0, 1);
        Check.due("twice 100 against 0", false, x.holds(0));
        x.setSessions(1, 10001);
        Check.due("twice 0 against 0", true, x.holds(0));
        x.fix(0, 2);
        x.setSessions(1, 100);
        Check.due("no reports from this one on", true, x.holds(0));
    }

    @Promise(number = 20, says = "in each version from this one on that has sessions")
    static void holdsWithoutAnySessions() {
        CrashBuckets x = withReports(0, 0, 0, 60);
        for (int version = 0; version < 4; version++) {
            x.setSessions(version, 0);
        }
        x.fix(59, 3);
        Check.due("no sessions at all", true, x.holds(59));
        x.setSessions(3, 1000000);
        Check.due("a rate that is rounded to 0", true, x.holds(59));
        x.setSessions(3, 1);
        Check.due("the greatest rate", false, x.holds(59));
    }

    @Promise(number = 20, says = "It holds, if the bucket of the report now has")
    static void holdsByTheBucketAsItIsNow() {
        CrashBuckets x = Scene.joined();
        Scene.tell(x, 2, 0, 0, 1);
        x.report(1, 0, 1, 500, NONE, NONE);
        x.setSessions(0, 100);
        x.setSessions(1, 100);
        x.fix(1, 1);
        Check.due("one report against two", true, x.holds(1));
        Scene.tell(x, 1, 1, 0, 9);
        Check.due("a later report", false, x.holds(1));
        x.addRange(1, 500, 500, 8);
        Check.due("split", true, x.holds(1));
        x.ignore(8, true);
        Check.due("joined again", false, x.holds(1));
    }

    @Promise(number = 20, says = "`IndexOutOfBoundsException` if there is no such report")
    static void holdsOfNoReport() {
        CrashBuckets x = new CrashBuckets();
        Check.dueIndex("no reports at all", () -> x.holds(0));
        Scene.tell(x, 1, 0, 0, 0);
        for (int bad : Check.outside(0, 0)) {
            Check.dueIndex("report " + bad + " of 1", () -> x.holds(bad));
        }
        Scene.tell(x, 59, 0, 0, 1);
        x.fix(0, 1);
        x.fix(59, 1);
        for (int bad : Check.outside(0, 59)) {
            Check.dueIndex("report " + bad + " of 60", () -> x.holds(bad));
        }
        Check.due("the first", true, x.holds(0));
        Check.due("the last", true, x.holds(59));
    }

    @Promise(number = 20, says = "`IllegalStateException` if it has none")
    static void holdsWithoutAFix() {
        CrashBuckets x = new CrashBuckets();
        Scene.tell(x, 60, 0, 0, 1);
        Check.dueState("the first", () -> x.holds(0));
        Check.dueState("the last", () -> x.holds(59));
        x.fix(30, 1);
        Check.due("the one with a fix", true, x.holds(30));
        Check.dueState("another one of its bucket", () -> x.holds(31));
        Check.dueArgument("a fix that is refused", () -> x.fix(31, 0));
        Check.dueState("after it", () -> x.holds(31));
    }

    @Promise(number = 20, says = "if several apply, the one that it lists first is thrown")
    static void holdsIndexComesFirst() {
        CrashBuckets x = new CrashBuckets();
        Check.dueIndex("no reports, and so no fix", () -> x.holds(0));
        Scene.tell(x, 1, 0, 0, 0);
        Check.dueIndex("report 1, and so no fix", () -> x.holds(1));
        Check.dueIndex("report -1, and so no fix", () -> x.holds(-1));
        Check.dueState("only no fix", () -> x.holds(0));
    }

    @Promise(number = 20, says = "A call that throws changes nothing.")
    static void refusedHoldsChangesNothing() {
        CrashBuckets x = Scene.busy();
        String before = Scene.stateOf(x);
        Check.dueIndex("report 3", () -> x.holds(3));
        Check.dueIndex("report -1", () -> x.holds(-1));
        Check.dueState("no fix", () -> x.holds(1));
        Check.dueText("after it", before, Scene.stateOf(x));
    }
}
