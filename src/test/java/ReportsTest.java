/** Promises 6 to 9: report, reports, frame, matters. */
public final class ReportsTest {
    private static final int NONE = CrashBuckets.NONE;

    public static void main(String[] args) {
        Check.runAll(ReportsTest.class);
    }

    // ---- report

    @Promise(number = 6, says = "`version`: 0 to 3")
    static void reportVersion() {
        CrashBuckets x = new CrashBuckets();
        for (int bad : Check.outside(0, 3)) {
            Check.dueArgument("version " + bad, () -> x.report(bad, 0, 0, 0, 0, 0));
        }
        for (int version = 0; version < 4; version++) {
            Check.due("version " + version, version, x.report(version, 0, 0, 0, 0, 0));
        }
    }

    @Promise(number = 6, says = "`user`: 0 to 19")
    static void reportUser() {
        CrashBuckets x = new CrashBuckets();
        for (int bad : Check.outside(0, 19)) {
            Check.dueArgument("user " + bad, () -> x.report(0, bad, 0, 0, 0, 0));
        }
        Check.due("user 0", 0, x.report(0, 0, 0, 0, 0, 0));
        Check.due("user 19", 1, x.report(0, 19, 0, 0, 0, 0));
    }

    @Promise(number = 6, says = "`first`: 0 to 9999")
    static void reportFirst() {
        CrashBuckets x = new CrashBuckets();
        for (int bad : Check.outside(0, 9999)) {
            Check.dueArgument("first " + bad, () -> x.report(0, 0, bad, NONE, NONE, NONE));
            Check.dueArgument("first " + bad + " with others", () -> x.report(0, 0, bad, 0, 0, 0));
        }
        Check.due("first 0", 0, x.report(0, 0, 0, NONE, NONE, NONE));
        Check.due("first 9999", 1, x.report(0, 0, 9999, NONE, NONE, NONE));
    }

    @Promise(number = 6, says = "A report has a version, a user and a stack of 1 to 4 addresses")
    static void reportWithoutAStack() {
        CrashBuckets x = new CrashBuckets();
        Check.dueArgument("an empty stack", () -> x.report(0, 0, NONE, NONE, NONE, NONE));
        Check.dueArgument("no first, but a second", () -> x.report(0, 0, NONE, 0, NONE, NONE));
        Check.dueArgument("no first, but all others", () -> x.report(0, 0, NONE, 0, 0, 0));
        Check.due("a stack of 1", 0, x.report(0, 0, 1, NONE, NONE, NONE));
        Check.due("a stack of 2", 1, x.report(0, 0, 1, 2, NONE, NONE));
        Check.due("a stack of 3", 2, x.report(0, 0, 1, 2, 3, NONE));
        Check.due("a stack of 4", 3, x.report(0, 0, 1, 2, 3, 4));
    }

    @Promise(number = 6, says = "`second`: 0 to 9999, or NONE for a stack of 1")
    static void reportSecond() {
        CrashBuckets x = new CrashBuckets();
        for (int bad : Check.outside(-1, 9999)) {
            Check.dueArgument("second " + bad, () -> x.report(0, 0, 5, bad, NONE, NONE));
            Check.dueArgument("second " + bad + " with others", () -> x.report(0, 0, 5, bad, 5, 5));
        }
        Check.due("second 0", 0, x.report(0, 0, 5, 0, NONE, NONE));
        Check.due("second 9999", 1, x.report(0, 0, 5, 9999, NONE, NONE));
        Check.due("no second", 2, x.report(0, 0, 5, NONE, NONE, NONE));
    }

    @Promise(number = 6, says = "`third`: 0 to 9999, or NONE for a stack of 2 or fewer; NONE if second is")
    static void reportThird() {
        CrashBuckets x = new CrashBuckets();
        for (int bad : Check.outside(-1, 9999)) {
            Check.dueArgument("third " + bad, () -> x.report(0, 0, 5, 5, bad, NONE));
            Check.dueArgument("third " + bad + " with a fourth", () -> x.report(0, 0, 5, 5, bad, 5));
        }
        Check.dueArgument("third 0 without a second", () -> x.report(0, 0, 5, NONE, 0, NONE));
        Check.dueArgument("third 9999 without a second", () -> x.report(0, 0, 5, NONE, 9999, NONE));
        Check.due("third 0", 0, x.report(0, 0, 5, 5, 0, NONE));
        Check.due("third 9999", 1, x.report(0, 0, 5, 5, 9999, NONE));
        Check.due("no third", 2, x.report(0, 0, 5, 5, NONE, NONE));
        Check.due("neither second nor third", 3, x.report(0, 0, 5, NONE, NONE, NONE));
    }

    @Promise(number = 6, says = "`fourth`: 0 to 9999, or NONE for a stack of 3 or fewer; NONE if third is")
    static void reportFourth() {
        CrashBuckets x = new CrashBuckets();
        for (int bad : Check.outside(-1, 9999)) {
            Check.dueArgument("fourth " + bad, () -> x.report(0, 0, 5, 5, 5, bad));
        }
        Check.dueArgument("fourth 0 without a third", () -> x.report(0, 0, 5, 5, NONE, 0));
        Check.dueArgument("fourth 9999 without a third", () -> x.report(0, 0, 5, 5, NONE, 9999));
        Check.dueArgument("fourth without a second", () -> x.report(0, 0, 5, NONE, NONE, 0));
        Check.dueArgument("third and fourth without a second", () -> x.report(0, 0, 5, NONE, 5, 5));
        Check.due("fourth 0", 0, x.report(0, 0, 5, 5, 5, 0));
        Check.due("fourth 9999", 1, x.report(0, 0, 5, 5, 5, 9999));
        Check.due("no fourth", 2, x.report(0, 0, 5, 5, 5, NONE));
        Check.due("neither third nor fourth", 3, x.report(0, 0, 5, 5, NONE, NONE));
    }

    @Promise(number = 6, says = "Reports are numbered from 0; there are at most 60.")
    static void reportNumbers() {
        CrashBuckets x = new CrashBuckets();
        for (int number = 0; number < 60; number++) {
            Check.due("number", number, x.report(number % 4, number % 20, 7, NONE, NONE, NONE));
        }
    }

    @Promise(number = 6, says = "`IllegalStateException` if there are 60")
    static void reportsAreFull() {
        CrashBuckets x = new CrashBuckets();
        Scene.tell(x, 59, 0, 0, 7);
        Check.due("report 60", 59, x.report(3, 19, 9999, NONE, NONE, NONE));
        Check.dueState("report 61", () -> x.report(0, 0, 7, NONE, NONE, NONE));
        Check.dueState("report 61 of a version with few", () -> x.report(3, 19, 8, 8, 8, 8));
    }

    @Promise(number = 6, says = "if several apply, the one that it lists first is thrown")
    static void reportArgumentComesFirst() {
        CrashBuckets x = new CrashBuckets();
        Scene.tell(x, 60, 0, 0, 7);
        Check.dueArgument("version", () -> x.report(4, 0, 7, NONE, NONE, NONE));
        Check.dueArgument("user", () -> x.report(0, 20, 7, NONE, NONE, NONE));
        Check.dueArgument("first", () -> x.report(0, 0, NONE, NONE, NONE, NONE));
        Check.dueArgument("second", () -> x.report(0, 0, 7, 10000, NONE, NONE));
        Check.dueArgument("third", () -> x.report(0, 0, 7, NONE, 7, NONE));
        Check.dueArgument("fourth", () -> x.report(0, 0, 7, 7, NONE, 7));
    }

    @Promise(number = 6, says = "A call that throws changes nothing.")
    static void refusedReportChangesNothing() {
        CrashBuckets x = Scene.busy();
        String before = Scene.stateOf(x);
        Check.dueArgument("version", () -> x.report(4, 0, 50, NONE, NONE, NONE));
        Check.dueArgument("user", () -> x.report(0, 20, 50, NONE, NONE, NONE));
        Check.dueArgument("first", () -> x.report(0, 0, 10000, NONE, NONE, NONE));
        Check.dueArgument("second", () -> x.report(0, 0, 50, -2, NONE, NONE));
        Check.dueArgument("third", () -> x.report(0, 0, 50, NONE, 50, NONE));
        Check.dueArgument("fourth", () -> x.report(0, 0, 50, 50, NONE, 50));
        Check.dueText("after it", before, Scene.stateOf(x));
        Check.due("number", 3, x.report(0, 0, 50, NONE, NONE, NONE));
    }

    @Promise(number = 6, says = "A call that throws changes nothing.")
    static void refusedReport61ChangesNothing() {
        CrashBuckets x = new CrashBuckets();
        x.setSessions(0, 100);
        Scene.tell(x, 60, 0, 0, 7);
        Check.dueState("report 61", () -> x.report(0, 1, 8, NONE, NONE, NONE));
        Check.dueState("report 61", () -> x.report(0, 1, 7, NONE, NONE, NONE));
        Check.due("reports", 60, x.reports());
        Check.due("buckets", 1, x.buckets());
        Check.due("size", 60, x.size(59));
        Check.due("rate", 6000, x.rate(0, 0));
        Check.due("users", 1, x.users(0, 0));
        Check.dueIndex("bucket", () -> x.bucket(60));
    }

    // ---- reports

    @Promise(number = 7, says = "Returns the number of reports.")
    static void reportsFromNoneTo60() {
        CrashBuckets x = new CrashBuckets();
        for (int told = 0; told < 60; told++) {
            Check.due("reports", told, x.reports());
            x.report(told % 4, 0, 7, NONE, NONE, NONE);
        }
        Check.due("full", 60, x.reports());
    }

    @Promise(number = 7, says = "Returns the number of reports.")
    static void reportsAreThoseThatWereTaken() {
        CrashBuckets x = new CrashBuckets();
        Scene.tell(x, 2, 0, 0, 5);
        Check.dueArgument("refused", () -> x.report(0, 0, NONE, NONE, NONE, NONE));
        Check.due("without the refused one", 2, x.reports());
        x.addRange(0, 0, 9, 1);
        x.ignore(1, true);
        Check.due("ignored ones too", 2, x.reports());
    }

    // ---- frame

    @Promise(number = 8, says = "The frame of an address is the function of the range in which it lies")
    static void frameAtTheEdgesOfARange() {
        CrashBuckets x = new CrashBuckets();
        x.addRange(0, 10, 20, 5);
        x.addRange(0, 22, 22, 6);
        int around = x.report(0, 0, 9, 10, 20, 21);
        Check.due("ahead of it", NONE, x.frame(around, 0));
        Check.due("its start", 5, x.frame(around, 1));
        Check.due("its end", 5, x.frame(around, 2));
        Check.due("behind it", NONE, x.frame(around, 3));
        int single = x.report(0, 0, 21, 22, 23, NONE);
        Check.due("ahead of one address", NONE, x.frame(single, 0));
        Check.due("one address", 6, x.frame(single, 1));
        Check.due("behind one address", NONE, x.frame(single, 2));
    }

    @Promise(number = 8, says = "ranges of addresses, from 0 to 9999, each of a function")
    static void frameAtTheEndsOfTheMap() {
        CrashBuckets x = new CrashBuckets();
        x.addRange(0, 0, 0, 0);
        x.addRange(0, 9999, 9999, 29);
        int report = x.report(0, 0, 0, 1, 9998, 9999);
        Check.due("address 0", 0, x.frame(report, 0));
        Check.due("address 1", NONE, x.frame(report, 1));
        Check.due("address 9998", NONE, x.frame(report, 2));
        Check.due("address 9999", 29, x.frame(report, 3));
    }

    @Promise(number = 8, says = "in the map of the version of the report, or unknown")
    static void frameOfItsOwnVersion() {
        CrashBuckets x = new CrashBuckets();
        for (int version = 0; version < 3; version++) {
            x.addRange(version, 0, 9999, 10 + version);
        }
        for (int version = 0; version < 4; version++) {
            int report = x.report(version, 0, 5, NONE, NONE, NONE);
            Check.due("version " + version, version < 3 ? 10 + version : NONE, x.frame(report, 0));
        }
    }

    @Promise(number = 8, says = "NONE if it is unknown, or the stack is shorter.")
    static void frameBeyondTheStack() {
        CrashBuckets x = new CrashBuckets();
        x.addRange(0, 0, 9999, 12);
        for (int length = 1; length <= 4; length++) {
            int report = x.report(0, 0, 0, length > 1 ? 0 : NONE, length > 2 ? 0 : NONE, length > 3 ? 0 : NONE);
            for (int place = 0; place < 4; place++) {
                String what = "place " + place + " of a stack of " + length;
                Check.due(what, place < length ? 12 : NONE, x.frame(report, place));
            }
        }
    }

    @Promise(number = 8, says = "always by all that has been told so far")
    static void frameByLaterRanges() {
        CrashBuckets x = new CrashBuckets();
        int report = x.report(0, 0, 0, 100, NONE, NONE);
        int other = x.report(1, 0, 0, 100, NONE, NONE);
        Check.due("without a map", NONE, x.frame(report, 0));
        x.addRange(0, 0, 50, 3);
        Check.due("with a range", 3, x.frame(report, 0));
        Check.due("without a range", NONE, x.frame(report, 1));
        Check.due("another version", NONE, x.frame(other, 0));
        x.addRange(0, 51, 9999, 0);
        Check.due("with another range", 0, x.frame(report, 1));
        Check.due("the first one stays", 3, x.frame(report, 0));
        Check.due("beyond the stack", NONE, x.frame(report, 2));
    }

    @Promise(number = 8, says = "Returns the function of a frame of a report")
    static void frameWhateverTheRules() {
        CrashBuckets x = new CrashBuckets();
        x.addRange(0, 0, 9, 3);
        int report = x.report(0, 0, 0, 1, 2, 3);
        x.ignore(3, true);
        Check.due("ignored", 3, x.frame(report, 0));
        x.standFor(3, 4);
        Check.due("stands for another", 3, x.frame(report, 0));
        x.setDepth(1);
        Check.due("beyond the depth", 3, x.frame(report, 3));
    }

    @Promise(number = 8, says = "`IndexOutOfBoundsException` if there is no such report")
    static void frameOfNoReport() {
        CrashBuckets x = new CrashBuckets();
        Check.dueIndex("no reports at all", () -> x.frame(0, 0));
        x.addRange(0, 0, 9, 3);
        Scene.tell(x, 1, 0, 0, 0);
        for (int bad : Check.outside(0, 0)) {
            Check.dueIndex("report " + bad + " of 1", () -> x.frame(bad, 0));
        }
        Scene.tell(x, 59, 0, 0, 0);
        for (int bad : Check.outside(0, 59)) {
            Check.dueIndex("report " + bad + " of 60", () -> x.frame(bad, 0));
        }
        Check.due("the first", 3, x.frame(0, 0));
        Check.due("the last", 3, x.frame(59, 0));
    }

    @Promise(number = 8, says = "`place`: 0 to 3")
    static void framePlace() {
        CrashBuckets x = new CrashBuckets();
        x.addRange(0, 0, 9, 3);
        int report = x.report(0, 0, 0, 1, 2, 3);
        for (int bad : Check.outside(0, 3)) {
            Check.dueArgument("place " + bad, () -> x.frame(report, bad));
        }
        Check.due("place 0", 3, x.frame(report, 0));
        Check.due("place 3", 3, x.frame(report, 3));
    }

    @Promise(number = 8, says = "if several apply, the one that it lists first is thrown")
    static void frameIndexComesFirst() {
        CrashBuckets x = new CrashBuckets();
        Check.dueIndex("no reports, place 4", () -> x.frame(0, 4));
        Scene.tell(x, 1, 0, 0, 0);
        Check.dueIndex("report 1, place 4", () -> x.frame(1, 4));
        Check.dueIndex("report -1, place -1", () -> x.frame(-1, -1));
    }

    @Promise(number = 8, says = "A call that throws changes nothing.")
    static void refusedFrameChangesNothing() {
        CrashBuckets x = Scene.busy();
        String before = Scene.stateOf(x);
        Check.dueIndex("report 3", () -> x.frame(3, 0));
        Check.dueIndex("report -1", () -> x.frame(-1, 0));
        Check.dueArgument("place 4", () -> x.frame(0, 4));
        Check.dueArgument("place -1", () -> x.frame(2, -1));
        Check.dueText("after it", before, Scene.stateOf(x));
    }

    // ---- matters

    private static void dueMatters(String what, CrashBuckets x, int report, int a, int b, int c, int d) {
        Check.due(what + " at 0", a, x.matters(report, 0));
        Check.due(what + " at 1", b, x.matters(report, 1));
        Check.due(what + " at 2", c, x.matters(report, 2));
        Check.due(what + " at 3", d, x.matters(report, 3));
    }

    @Promise(number = 9, says = "its frames, in their order, without unknown ones and those of ignored functions")
    static void mattersInTheirOrder() {
        CrashBuckets x = new CrashBuckets();
        Scene.mapAll(x, 0);
        x.setDepth(4);
        int report = x.report(0, 0, 30, 9, 10, 290);
        dueMatters("without unknown ones", x, report, 3, 1, 29, NONE);
        x.ignore(1, true);
        dueMatters("without an ignored one", x, report, 3, 29, NONE, NONE);
        int twice = x.report(0, 0, 40, 40, 0, 40);
        dueMatters("the same more than once", x, twice, 4, 4, 0, 4);
    }

    @Promise(number = 9, says = "NONE if there are not so many.")
    static void mattersOfNone() {
        CrashBuckets x = new CrashBuckets();
        Scene.mapAll(x, 0);
        x.setDepth(4);
        int unknown = x.report(0, 0, 9, 19, 299, 9999);
        dueMatters("all unknown", x, unknown, NONE, NONE, NONE, NONE);
        int ignored = x.report(0, 0, 0, 290, 0, 290);
        x.ignore(0, true);
        x.ignore(29, true);
        dueMatters("all ignored", x, ignored, NONE, NONE, NONE, NONE);
        int last = x.report(0, 0, 9, 0, 290, 10);
        dueMatters("only the last one", x, last, 1, NONE, NONE, NONE);
    }

    @Promise(number = 9, says = "of those the first ones, as many as the depth tells")
    static void mattersToEachDepth() {
        CrashBuckets x = new CrashBuckets();
        Scene.mapAll(x, 2);
        int report = x.report(2, 0, 10, 20, 30, 40);
        x.setDepth(1);
        dueMatters("depth 1", x, report, 1, NONE, NONE, NONE);
        x.setDepth(2);
        dueMatters("depth 2", x, report, 1, 2, NONE, NONE);
        x.setDepth(3);
        dueMatters("depth 3", x, report, 1, 2, 3, NONE);
        x.setDepth(4);
        dueMatters("depth 4", x, report, 1, 2, 3, 4);
    }

    @Promise(number = 9, says = "of those the first ones, as many as the depth tells")
    static void mattersCountsWhatIsLeft() {
        CrashBuckets x = new CrashBuckets();
        Scene.mapAll(x, 0);
        int report = x.report(0, 0, 10, 9, 20, 30);
        dueMatters("an unknown one takes no place", x, report, 1, 2, NONE, NONE);
        x.ignore(1, true);
        dueMatters("nor does an ignored one", x, report, 2, 3, NONE, NONE);
    }

    @Promise(number = 9, says = "or fewer if there are no more")
    static void mattersOfFewerThanTheDepth() {
        CrashBuckets x = new CrashBuckets();
        Scene.mapAll(x, 0);
        x.setDepth(4);
        dueMatters("of 1", x, x.report(0, 0, 10, NONE, NONE, NONE), 1, NONE, NONE, NONE);
        dueMatters("of 2", x, x.report(0, 0, 10, 20, NONE, NONE), 1, 2, NONE, NONE);
        dueMatters("of 3", x, x.report(0, 0, 10, 20, 30, NONE), 1, 2, 3, NONE);
        dueMatters("of 4", x, x.report(0, 0, 10, 20, 30, 40), 1, 2, 3, 4);
    }

    @Promise(number = 9, says = "Whether a function is ignored is asked of the one that the map tells.")
    static void mattersIgnoredAsTheMapTells() {
        CrashBuckets x = new CrashBuckets();
        Scene.mapAll(x, 0);
        int report = x.report(0, 0, 50, 60, NONE, NONE);
        x.standFor(5, 7);
        x.standFor(7, 8);
        x.ignore(7, true);
        dueMatters("not of one on the way", x, report, 8, 6, NONE, NONE);
        x.ignore(8, true);
        dueMatters("nor of the last one", x, report, 8, 6, NONE, NONE);
        x.ignore(5, true);
        dueMatters("of the map's own", x, report, 6, NONE, NONE, NONE);
    }

    @Promise(number = 9, says = "found by going on from one to the next, until one stands for itself")
    static void mattersAtTheEndOfAChain() {
        CrashBuckets x = new CrashBuckets();
        Scene.mapAll(x, 0);
        int report = x.report(0, 0, 10, 20, NONE, NONE);
        x.standFor(1, 2);
        dueMatters("one step", x, report, 2, 2, NONE, NONE);
        x.standFor(2, 3);
        dueMatters("two steps", x, report, 3, 3, NONE, NONE);
        x.standFor(3, 0);
        dueMatters("three steps", x, report, 0, 0, NONE, NONE);
        x.standFor(2, 2);
        dueMatters("cut in the middle", x, report, 2, 2, NONE, NONE);
        x.standFor(1, 1);
        dueMatters("each for itself", x, report, 1, 2, NONE, NONE);
    }

    @Promise(number = 9, says = "found by going on from one to the next, until one stands for itself")
    static void mattersAtTheEndOfTheLongestChain() {
        CrashBuckets x = new CrashBuckets();
        Scene.mapAll(x, 0);
        for (int function = 29; function > 0; function--) {
            x.standFor(function, function - 1);
        }
        dueMatters("29 steps and 15", x, x.report(0, 0, 290, 150, NONE, NONE), 0, 0, NONE, NONE);
        x.standFor(1, 1);
        dueMatters("28 steps and none", x, x.report(0, 0, 290, 0, NONE, NONE), 1, 0, NONE, NONE);
    }

    @Promise(number = 9, says = "always by all that has been told so far")
    static void mattersByLaterRangesAndRules() {
        CrashBuckets x = new CrashBuckets();
        int report = x.report(1, 0, 10, 20, NONE, NONE);
        dueMatters("without a map", x, report, NONE, NONE, NONE, NONE);
        x.addRange(1, 20, 20, 8);
        dueMatters("the second is known", x, report, 8, NONE, NONE, NONE);
        x.addRange(1, 10, 10, 9);
        dueMatters("both are known", x, report, 9, 8, NONE, NONE);
        x.ignore(9, true);
        dueMatters("the first is ignored", x, report, 8, NONE, NONE, NONE);
        x.ignore(9, false);
        dueMatters("and not any more", x, report, 9, 8, NONE, NONE);
    }

    @Promise(number = 9, says = "`IndexOutOfBoundsException` if there is no such report")
    static void mattersOfNoReport() {
        CrashBuckets x = new CrashBuckets();
        Check.dueIndex("no reports at all", () -> x.matters(0, 0));
        x.addRange(0, 0, 9, 3);
        Scene.tell(x, 1, 0, 0, 0);
        for (int bad : Check.outside(0, 0)) {
            Check.dueIndex("report " + bad + " of 1", () -> x.matters(bad, 0));
        }
        Scene.tell(x, 59, 0, 0, 0);
        for (int bad : Check.outside(0, 59)) {
            Check.dueIndex("report " + bad + " of 60", () -> x.matters(bad, 0));
        }
        Check.due("the first", 3, x.matters(0, 0));
        Check.due("the last", 3, x.matters(59, 0));
    }

    @Promise(number = 9, says = "`place`: 0 to 3")
    static void mattersPlace() {
        CrashBuckets x = new CrashBuckets();
        x.addRange(0, 0, 9, 3);
        x.setDepth(4);
        int report = x.report(0, 0, 0, 1, 2, 3);
        for (int bad : Check.outside(0, 3)) {
            Check.dueArgument("place " + bad, () -> x.matters(report, bad));
        }
        Check.due("place 0", 3, x.matters(report, 0));
        Check.due("place 3", 3, x.matters(report, 3));
        x.setDepth(1);
        Check.due("place 3 beyond the depth", NONE, x.matters(report, 3));
    }

    @Promise(number = 9, says = "if several apply, the one that it lists first is thrown")
    static void mattersIndexComesFirst() {
        CrashBuckets x = new CrashBuckets();
        Check.dueIndex("no reports, place 4", () -> x.matters(0, 4));
        Scene.tell(x, 1, 0, 0, 0);
        Check.dueIndex("report 1, place 4", () -> x.matters(1, 4));
        Check.dueIndex("report -1, place -1", () -> x.matters(-1, -1));
    }

    @Promise(number = 9, says = "A call that throws changes nothing.")
    static void refusedMattersChangesNothing() {
        CrashBuckets x = Scene.busy();
        String before = Scene.stateOf(x);
        Check.dueIndex("report 3", () -> x.matters(3, 0));
        Check.dueIndex("report -1", () -> x.matters(-1, 0));
        Check.dueArgument("place 4", () -> x.matters(0, 4));
        Check.dueArgument("place -1", () -> x.matters(2, -1));
        Check.dueText("after it", before, Scene.stateOf(x));
    }
}
