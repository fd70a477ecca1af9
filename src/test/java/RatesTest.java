/** Promises 13 to 16: setSessions, setLimit, rate, users. */
public final class RatesTest {
    private static final int NONE = CrashBuckets.NONE;

    public static void main(String[] args) {
        Check.runAll(RatesTest.class);
    }

    // ---- setSessions

    @Promise(number = 13, says = "`version`: 0 to 3")
    static void sessionsVersion() {
        CrashBuckets x = new CrashBuckets();
        for (int bad : Check.outside(0, 3)) {
            Check.dueArgument("version " + bad, () -> x.setSessions(bad, 1));
        }
        for (int version = 0; version < 4; version++) {
            Check.due("version " + version, 0, x.setSessions(version, version + 1));
        }
        for (int version = 0; version < 4; version++) {
            Check.due("each of its own", version + 1, x.setSessions(version, 0));
        }
    }

    @Promise(number = 13, says = "`sessions`: 0 to 1000000")
    static void sessionsSpan() {
        CrashBuckets x = new CrashBuckets();
        for (int bad : Check.outside(0, 1000000)) {
            Check.dueArgument("sessions " + bad, () -> x.setSessions(0, bad));
        }
        Check.due("1000000", 0, x.setSessions(0, 1000000));
        Check.due("0", 1000000, x.setSessions(0, 0));
    }

    @Promise(number = 13, says = "Returns the sessions before.")
    static void sessionsBefore() {
        CrashBuckets x = new CrashBuckets();
        Check.due("at first", 0, x.setSessions(2, 50));
        Check.due("then", 50, x.setSessions(2, 50));
        Check.due("the same again", 50, x.setSessions(2, 0));
        Check.due("none again", 0, x.setSessions(2, 1));
    }

    @Promise(number = 13, says = "A call that throws changes nothing.")
    static void refusedSessionsChangeNothing() {
        CrashBuckets x = Scene.busy();
        String before = Scene.stateOf(x);
        for (int bad : Check.outside(0, 1000000)) {
            Check.dueArgument("sessions " + bad, () -> x.setSessions(0, bad));
        }
        for (int bad : Check.outside(0, 3)) {
            Check.dueArgument("version " + bad, () -> x.setSessions(bad, 7));
        }
        Check.dueText("after it", before, Scene.stateOf(x));
    }

    // ---- setLimit

    @Promise(number = 14, says = "`limit`: 1 to 10000")
    static void limitSpan() {
        CrashBuckets x = new CrashBuckets();
        for (int bad : Check.outside(1, 10000)) {
            Check.dueArgument("limit " + bad, () -> x.setLimit(bad));
        }
        Check.due("1", 100, x.setLimit(1));
        Check.due("10000", 1, x.setLimit(10000));
        Check.due("it was taken", 10000, x.setLimit(2));
    }

    @Promise(number = 14, says = "Returns the limit before.")
    static void limitBefore() {
        CrashBuckets x = new CrashBuckets();
        Check.due("at first", 100, x.setLimit(7));
        Check.due("then", 7, x.setLimit(7));
        Check.due("the same again", 7, x.setLimit(100));
    }

    @Promise(number = 14, says = "A call that throws changes nothing.")
    static void refusedLimitChangesNothing() {
        CrashBuckets x = Scene.busy();
        String before = Scene.stateOf(x);
        for (int bad : Check.outside(1, 10000)) {
            Check.dueArgument("limit " + bad, () -> x.setLimit(bad));
        }
        Check.dueText("after it", before, Scene.stateOf(x));
        Check.due("limit", 200, x.setLimit(200));
    }

    // ---- rate

    @Promise(number = 15, says = "divided by the sessions; 0 without sessions")
    static void rateWithoutSessions() {
        CrashBuckets x = new CrashBuckets();
        Scene.tell(x, 60, 1, 0, 50);
        Check.due("at first", 0, x.rate(0, 1));
        x.setSessions(1, 1);
        Check.due("with one", 600000, x.rate(0, 1));
        x.setSessions(1, 0);
        Check.due("without them again", 0, x.rate(0, 1));
    }

    @Promise(number = 15, says = "10000 times the number of its reports of this version")
    static void rateOfItsReportsOfThisVersion() {
        CrashBuckets x = Scene.joined();
        Scene.tell(x, 2, 1, 0, 5);
        Scene.tell(x, 1, 0, 0, 6);
        Scene.tell(x, 4, 1, 0, 50);
        for (int version = 0; version < 4; version++) {
            x.setSessions(version, 10);
        }
        Check.due("of two", 2000, x.rate(0, 1));
        Check.due("in another version", 1000, x.rate(0, 0));
        Check.due("asked by a report of another version", 2000, x.rate(2, 1));
        Check.due("of another bucket", 4000, x.rate(3, 1));
        Check.due("of none in this version", 0, x.rate(0, 3));
        Check.due("of none in this version", 0, x.rate(3, 0));
    }

    @Promise(number = 15, says = "Divisions are rounded down.")
    static void rateIsRoundedDown() {
        CrashBuckets x = new CrashBuckets();
        Scene.tell(x, 2, 1, 0, 50);
        x.setSessions(1, 3);
        Check.due("6666 and two thirds", 6666, x.rate(0, 1));
        x.setSessions(1, 20000);
        Check.due("just 1", 1, x.rate(0, 1));
        x.setSessions(1, 20001);
        Check.due("a little less than 1", 0, x.rate(0, 1));
        x.setSessions(1, 10001);
        Check.due("a little less than 2", 1, x.rate(0, 1));
    }

    @Promise(number = 15, says = "The rate of a bucket in a version is 10000 times the number of its reports")
    static void rateOfMostAndFewestSessions() {
        CrashBuckets x = new CrashBuckets();
        Scene.tell(x, 60, 3, 0, 50);
        x.setSessions(3, 1);
        Check.due("greatest", 600000, x.rate(59, 3));
        x.setSessions(3, 1000000);
        Check.due("most sessions", 0, x.rate(59, 3));
        x.setSessions(3, 600000);
        Check.due("least above 0", 1, x.rate(59, 3));
        x.setSessions(3, 60);
        Check.due("a report a session", 10000, x.rate(59, 3));
    }

    @Promise(number = 15, says = "always by all that has been told so far")
    static void rateOfBucketsThatSplitAndJoin() {
        CrashBuckets x = Scene.splittable();
        x.setSessions(0, 100);
        Check.due("apart by their first addresses", 100, x.rate(1, 0));
        x.addRange(0, 0, 9, 1);
        Check.due("one by the map", 300, x.rate(1, 0));
        x.addRange(0, 10, 19, 2);
        Check.due("two by the map", 200, x.rate(1, 0));
        x.setDepth(1);
        Check.due("one by the depth", 300, x.rate(1, 0));
        x.ignore(1, true);
        Check.due("two by what is ignored", 200, x.rate(1, 0));
        x.addRange(0, 20, 29, 3);
        x.standFor(3, 2);
        Check.due("one by what stands for another", 300, x.rate(1, 0));
        x.standFor(3, 3);
        Check.due("two by what stands for itself again", 200, x.rate(1, 0));
    }

    @Promise(number = 15, says = "`IndexOutOfBoundsException` if there is no such report")
    static void rateOfNoReport() {
        CrashBuckets x = new CrashBuckets();
        x.setSessions(0, 1);
        Check.dueIndex("no reports at all", () -> x.rate(0, 0));
        Scene.tell(x, 1, 0, 0, 0);
        for (int bad : Check.outside(0, 0)) {
            Check.dueIndex("report " + bad + " of 1", () -> x.rate(bad, 0));
        }
        Scene.tell(x, 59, 0, 0, 1);
        for (int bad : Check.outside(0, 59)) {
            Check.dueIndex("report " + bad + " of 60", () -> x.rate(bad, 0));
        }
        Check.due("the first", 10000, x.rate(0, 0));
        Check.due("the last", 590000, x.rate(59, 0));
    }

    @Promise(number = 15, says = "`version`: 0 to 3")
    static void rateVersion() {
        CrashBuckets x = Scene.joined();
        for (int version = 0; version < 4; version++) {
            Scene.tell(x, version + 1, version, 0, 5);
            x.setSessions(version, 1);
        }
        for (int bad : Check.outside(0, 3)) {
            Check.dueArgument("version " + bad, () -> x.rate(0, bad));
        }
        for (int version = 0; version < 4; version++) {
            Check.due("version " + version, 10000 * (version + 1), x.rate(0, version));
        }
    }

    @Promise(number = 15, says = "if several apply, the one that it lists first is thrown")
    static void rateIndexComesFirst() {
        CrashBuckets x = new CrashBuckets();
        Check.dueIndex("no reports, version 4", () -> x.rate(0, 4));
        Scene.tell(x, 1, 0, 0, 0);
        Check.dueIndex("report 1, version 4", () -> x.rate(1, 4));
        Check.dueIndex("report -1, version -1", () -> x.rate(-1, -1));
    }

    @Promise(number = 15, says = "A call that throws changes nothing.")
    static void refusedRateChangesNothing() {
        CrashBuckets x = Scene.busy();
        String before = Scene.stateOf(x);
        Check.dueIndex("report 3", () -> x.rate(3, 0));
        Check.dueIndex("report -1", () -> x.rate(-1, 0));
        Check.dueArgument("version 4", () -> x.rate(0, 4));
        Check.dueArgument("version -1", () -> x.rate(2, -1));
        Check.dueText("after it", before, Scene.stateOf(x));
    }

    // ---- users

    @Promise(number = 16, says = "Its users in a version are how many unlike users have reports of it there.")
    static void usersWhoReportTwice() {
        CrashBuckets x = new CrashBuckets();
        Scene.tell(x, 3, 0, 19, 5);
        Check.due("one three times", 1, x.users(0, 0));
        Scene.tell(x, 2, 0, 0, 5);
        Scene.tell(x, 1, 0, 19, 5);
        Check.due("two", 2, x.users(0, 0));
        Check.due("asked by another of its reports", 2, x.users(4, 0));
    }

    @Promise(number = 16, says = "Its users in a version are how many unlike users have reports of it there.")
    static void usersFromNoneToAll() {
        CrashBuckets x = new CrashBuckets();
        for (int user = 0; user < 20; user++) {
            Scene.tell(x, 1, 2, user, 5);
            Check.due("up to user " + user, user + 1, x.users(0, 2));
        }
        Scene.tell(x, 40, 2, 7, 5);
        Check.due("with 60 reports", 20, x.users(59, 2));
        Check.due("none in another version", 0, x.users(59, 1));
    }

    @Promise(number = 16, says = "Its users in a version are how many unlike users have reports of it there.")
    static void usersOfThisBucketInThisVersion() {
        CrashBuckets x = Scene.joined();
        Scene.tell(x, 1, 0, 19, 5);
        Scene.tell(x, 1, 2, 7, 5);
        Scene.tell(x, 1, 2, 19, 6);
        Scene.tell(x, 1, 2, 8, 50);
        Check.due("version 0", 1, x.users(0, 0));
        Check.due("version 2", 2, x.users(0, 2));
        Check.due("no report there", 0, x.users(0, 1));
        Check.due("another bucket", 1, x.users(3, 2));
        x.ignore(7, true);
        Check.due("split", 1, x.users(1, 2));
        Check.due("without sessions as well", 1, x.users(3, 2));
    }

    @Promise(number = 16, says = "always by all that has been told so far")
    static void usersOfBucketsThatSplitAndJoin() {
        CrashBuckets x = Scene.splittable();
        Check.due("apart by their first addresses", 1, x.users(1, 0));
        x.addRange(0, 0, 9, 1);
        Check.due("one by the map", 3, x.users(1, 0));
        x.addRange(0, 10, 19, 2);
        Check.due("two by the map", 2, x.users(1, 0));
        x.setDepth(1);
        Check.due("one by the depth", 3, x.users(1, 0));
        x.ignore(1, true);
        Check.due("two by what is ignored", 2, x.users(1, 0));
        x.addRange(0, 20, 29, 3);
        x.standFor(3, 2);
        Check.due("one by what stands for another", 3, x.users(1, 0));
        x.standFor(3, 3);
        Check.due("two by what stands for itself again", 2, x.users(1, 0));
    }

    @Promise(number = 16, says = "`IndexOutOfBoundsException` if there is no such report")
    static void usersOfNoReport() {
        CrashBuckets x = new CrashBuckets();
        Check.dueIndex("no reports at all", () -> x.users(0, 0));
        Scene.tell(x, 1, 0, 0, 0);
        for (int bad : Check.outside(0, 0)) {
            Check.dueIndex("report " + bad + " of 1", () -> x.users(bad, 0));
        }
        Scene.tell(x, 58, 0, 0, 1);
        Scene.tell(x, 1, 0, 1, 1);
        for (int bad : Check.outside(0, 59)) {
            Check.dueIndex("report " + bad + " of 60", () -> x.users(bad, 0));
        }
        Check.due("the first", 1, x.users(0, 0));
        Check.due("the last", 2, x.users(59, 0));
    }

    @Promise(number = 16, says = "`version`: 0 to 3")
    static void usersVersion() {
        CrashBuckets x = Scene.joined();
        for (int version = 0; version < 4; version++) {
            for (int user = 0; user <= version; user++) {
                x.report(version, user, 5, NONE, NONE, NONE);
            }
        }
        for (int bad : Check.outside(0, 3)) {
            Check.dueArgument("version " + bad, () -> x.users(0, bad));
        }
        for (int version = 0; version < 4; version++) {
            Check.due("version " + version, version + 1, x.users(0, version));
        }
    }

    @Promise(number = 16, says = "if several apply, the one that it lists first is thrown")
    static void usersIndexComesFirst() {
        CrashBuckets x = new CrashBuckets();
        Check.dueIndex("no reports, version 4", () -> x.users(0, 4));
        Scene.tell(x, 1, 0, 0, 0);
        Check.dueIndex("report 1, version 4", () -> x.users(1, 4));
        Check.dueIndex("report -1, version -1", () -> x.users(-1, -1));
    }

    @Promise(number = 16, says = "A call that throws changes nothing.")
    static void refusedUsersChangeNothing() {
        CrashBuckets x = Scene.busy();
        String before = Scene.stateOf(x);
        Check.dueIndex("report 3", () -> x.users(3, 0));
        Check.dueIndex("report -1", () -> x.users(-1, 0));
        Check.dueArgument("version 4", () -> x.users(0, 4));
        Check.dueArgument("version -1", () -> x.users(2, -1));
        Check.dueText("after it", before, Scene.stateOf(x));
    }
}
