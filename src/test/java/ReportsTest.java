/** Promises 6 to 9: report, reports, frame, matters. */
public final class ReportsTest {
    private static final int NONE = CrashBuckets.NONE;

    public static void main(String[] args) {
        promise6Numbers();
        promise6Arguments();
        promise6Full();
        promise7Counts();
        promise8Frames();
        promise8LaterRanges();
        promise8IgnoresRules();
        promise8Arguments();
        promise9Order();
        promise9Depth();
        promise9IgnoredAsTheMapTells();
        promise9EndOfTheChain();
        promise9FollowsChanges();
        promise9Arguments();
        Check.end();
    }

    private static void promise6Numbers() {
        CrashBuckets x = new CrashBuckets();
        Check.due("6 stack of 1", 0, x.report(0, 0, 0, NONE, NONE, NONE));
        Check.due("6 stack of 2", 1, x.report(3, 19, 9999, 9999, NONE, NONE));
        Check.due("6 stack of 3", 2, x.report(1, 5, 1, 2, 3, NONE));
        Check.due("6 stack of 4", 3, x.report(1, 5, 1, 2, 3, 4));
        Check.due("6 the same again", 4, x.report(1, 5, 1, 2, 3, 4));
    }

    private static void promise6Arguments() {
        CrashBuckets x = new CrashBuckets();
        for (int bad : new int[] {-2, 10000, Integer.MIN_VALUE, Integer.MAX_VALUE}) {
            Check.dueArgument("6 version " + bad, () -> x.report(bad, 0, 0, 0, 0, 0));
            Check.dueArgument("6 user " + bad, () -> x.report(0, bad, 0, 0, 0, 0));
            Check.dueArgument("6 first " + bad, () -> x.report(0, 0, bad, 0, 0, 0));
            Check.dueArgument("6 second " + bad, () -> x.report(0, 0, 0, bad, NONE, NONE));
            Check.dueArgument("6 third " + bad, () -> x.report(0, 0, 0, 0, bad, NONE));
            Check.dueArgument("6 fourth " + bad, () -> x.report(0, 0, 0, 0, 0, bad));
            Check.dueArgument("6 second within " + bad, () -> x.report(0, 0, 0, bad, 0, 0));
            Check.dueArgument("6 third within " + bad, () -> x.report(0, 0, 0, 0, bad, 0));
        }
        Check.dueArgument("6 version 4", () -> x.report(4, 0, 0, 0, 0, 0));
        Check.dueArgument("6 version -1", () -> x.report(-1, 0, 0, 0, 0, 0));
        Check.dueArgument("6 user 20", () -> x.report(0, 20, 0, 0, 0, 0));
        Check.dueArgument("6 user -1", () -> x.report(0, -1, 0, 0, 0, 0));
        Check.dueArgument("6 no first", () -> x.report(0, 0, NONE, NONE, NONE, NONE));
        Check.dueArgument("6 no first but second", () -> x.report(0, 0, NONE, 0, NONE, NONE));
        Check.dueArgument("6 third without second", () -> x.report(0, 0, 0, NONE, 0, NONE));
        Check.dueArgument("6 third and fourth without second", () -> x.report(0, 0, 0, NONE, 0, 0));
        Check.dueArgument("6 fourth without third", () -> x.report(0, 0, 0, 0, NONE, 0));
        Check.dueArgument("6 fourth without second", () -> x.report(0, 0, 0, NONE, NONE, 0));
        Check.due("6 nothing was told", 0, x.reports());
        Check.due("6 nor numbered", 0, x.report(0, 0, 0, NONE, NONE, NONE));
    }

    private static void promise6Full() {
        CrashBuckets x = new CrashBuckets();
        for (int number = 0; number < 60; number++) {
            Check.due("6 number", number, x.report(number % 4, number % 20, number, NONE, NONE, NONE));
        }
        Check.dueState("6 full", () -> x.report(0, 0, 0, NONE, NONE, NONE));
        Check.dueArgument("6 argument before full", () -> x.report(0, 0, 0, NONE, 0, NONE));
        Check.due("6 still 60", 60, x.reports());
        Check.due("6 still 60 buckets", 60, x.buckets());
        Check.due("6 the last one", 59, x.bucket(59));
        Check.dueIndex("6 not the one that was refused", () -> x.bucket(60));
    }

    private static void promise7Counts() {
        CrashBuckets x = new CrashBuckets();
        Check.due("7 none", 0, x.reports());
        x.report(0, 0, 0, NONE, NONE, NONE);
        Check.due("7 one", 1, x.reports());
        x.report(0, 0, 0, NONE, NONE, NONE);
        x.report(2, 0, 0, NONE, NONE, NONE);
        Check.due("7 three", 3, x.reports());
        x.addRange(0, 0, 9, 1);
        x.ignore(1, true);
        Check.due("7 rules change nothing", 3, x.reports());
    }

    private static void promise8Frames() {
        CrashBuckets x = new CrashBuckets();
        x.addRange(0, 10, 20, 5);
        x.addRange(0, 21, 21, 6);
        x.addRange(1, 10, 20, 7);
        int a = x.report(0, 0, 9, 10, 20, 21);
        int b = x.report(1, 0, 10, 21, NONE, NONE);
        Check.due("8 before", NONE, x.frame(a, 0));
        Check.due("8 start", 5, x.frame(a, 1));
        Check.due("8 end", 5, x.frame(a, 2));
        Check.due("8 next range", 6, x.frame(a, 3));
        Check.due("8 its own version", 7, x.frame(b, 0));
        Check.due("8 not another version's", NONE, x.frame(b, 1));
        Check.due("8 shorter stack", NONE, x.frame(b, 2));
        Check.due("8 shorter stack's end", NONE, x.frame(b, 3));
    }

    private static void promise8LaterRanges() {
        CrashBuckets x = new CrashBuckets();
        int a = x.report(0, 0, 0, 100, NONE, NONE);
        int b = x.report(1, 0, 0, 100, NONE, NONE);
        Check.due("8 no map", NONE, x.frame(a, 0));
        x.addRange(0, 0, 50, 3);
        Check.due("8 with a map", 3, x.frame(a, 0));
        Check.due("8 place without a range", NONE, x.frame(a, 1));
        Check.due("8 beyond the stack", NONE, x.frame(a, 2));
        Check.due("8 other version", NONE, x.frame(b, 0));
        x.addRange(0, 51, 9999, 0);
        Check.due("8 function 0", 0, x.frame(a, 1));
        Check.due("8 the first stays", 3, x.frame(a, 0));
        Check.due("8 beyond the stack still", NONE, x.frame(a, 2));
    }

    private static void promise8IgnoresRules() {
        CrashBuckets x = new CrashBuckets();
        x.addRange(0, 0, 9, 3);
        int a = x.report(0, 0, 0, 1, 2, 3);
        x.ignore(3, true);
        Check.due("8 ignored", 3, x.frame(a, 0));
        x.standFor(3, 4);
        Check.due("8 stands for another", 3, x.frame(a, 0));
        x.setDepth(1);
        Check.due("8 beyond the depth", 3, x.frame(a, 3));
    }

    private static void promise8Arguments() {
        CrashBuckets x = new CrashBuckets();
        Check.dueIndex("8 no report", () -> x.frame(0, 0));
        x.report(0, 0, 0, NONE, NONE, NONE);
        for (int bad : new int[] {-1, 1, 59, 60, Integer.MIN_VALUE, Integer.MAX_VALUE}) {
            Check.dueIndex("8 report " + bad, () -> x.frame(bad, 0));
            Check.dueIndex("8 report first " + bad, () -> x.frame(bad, 4));
        }
        for (int bad : new int[] {-1, 4, Integer.MIN_VALUE, Integer.MAX_VALUE}) {
            Check.dueArgument("8 place " + bad, () -> x.frame(0, bad));
        }
    }

    /** Addresses 0, 10, .. 290 are in the functions 0 to 29 of this version. */
    private static void mapAll(CrashBuckets x, int version) {
        for (int function = 0; function < 30; function++) {
            x.addRange(version, function * 10, function * 10 + 5, function);
        }
    }

    private static void dueMatters(String what, CrashBuckets x, int report, int a, int b, int c, int d) {
        Check.due(what + " at 0", a, x.matters(report, 0));
        Check.due(what + " at 1", b, x.matters(report, 1));
        Check.due(what + " at 2", c, x.matters(report, 2));
        Check.due(what + " at 3", d, x.matters(report, 3));
    }

    private static void promise9Order() {
        CrashBuckets x = new CrashBuckets();
        mapAll(x, 0);
        x.setDepth(4);
        int a = x.report(0, 0, 30, 9, 10, 290);
        dueMatters("9 without unknown", x, a, 3, 1, 29, NONE);
        x.ignore(3, true);
        dueMatters("9 without ignored", x, a, 1, 29, NONE, NONE);
        x.ignore(1, true);
        x.ignore(29, true);
        dueMatters("9 none", x, a, NONE, NONE, NONE, NONE);
        int b = x.report(0, 0, 40, 40, 40, 0);
        dueMatters("9 the same more than once", x, b, 4, 4, 4, 0);
    }

    private static void promise9Depth() {
        CrashBuckets x = new CrashBuckets();
        mapAll(x, 2);
        int a = x.report(2, 0, 10, 20, 30, 40);
        dueMatters("9 depth 2 at first", x, a, 1, 2, NONE, NONE);
        x.setDepth(1);
        dueMatters("9 depth 1", x, a, 1, NONE, NONE, NONE);
        x.setDepth(3);
        dueMatters("9 depth 3", x, a, 1, 2, 3, NONE);
        x.setDepth(4);
        dueMatters("9 depth 4", x, a, 1, 2, 3, 4);
        x.setDepth(2);
        x.ignore(1, true);
        dueMatters("9 depth counts those that are left", x, a, 2, 3, NONE, NONE);
    }

    private static void promise9IgnoredAsTheMapTells() {
        CrashBuckets x = new CrashBuckets();
        mapAll(x, 0);
        int a = x.report(0, 0, 50, 60, NONE, NONE);
        x.standFor(5, 7);
        x.ignore(7, true);
        dueMatters("9 the end's being ignored is not asked", x, a, 7, 6, NONE, NONE);
        x.ignore(5, true);
        dueMatters("9 the map's function is", x, a, 6, NONE, NONE, NONE);
    }

    private static void promise9EndOfTheChain() {
        CrashBuckets x = new CrashBuckets();
        mapAll(x, 0);
        int a = x.report(0, 0, 10, 20, NONE, NONE);
        x.standFor(1, 2);
        dueMatters("9 one step", x, a, 2, 2, NONE, NONE);
        x.standFor(2, 3);
        dueMatters("9 two steps", x, a, 3, 3, NONE, NONE);
        x.standFor(3, 0);
        dueMatters("9 three steps", x, a, 0, 0, NONE, NONE);
        x.standFor(2, 2);
        dueMatters("9 cut in the middle", x, a, 2, 2, NONE, NONE);
        x.ignore(2, true);
        dueMatters("9 chain goes through an ignored one", x, a, 2, NONE, NONE, NONE);
    }

    private static void promise9FollowsChanges() {
        CrashBuckets x = new CrashBuckets();
        int a = x.report(1, 0, 10, 20, NONE, NONE);
        dueMatters("9 without a map", x, a, NONE, NONE, NONE, NONE);
        x.addRange(1, 20, 20, 8);
        dueMatters("9 second known", x, a, 8, NONE, NONE, NONE);
        x.addRange(1, 10, 10, 9);
        dueMatters("9 both known", x, a, 9, 8, NONE, NONE);
        x.ignore(9, true);
        x.ignore(9, false);
        dueMatters("9 not ignored any more", x, a, 9, 8, NONE, NONE);
    }

    private static void promise9Arguments() {
        CrashBuckets x = new CrashBuckets();
        Check.dueIndex("9 no report", () -> x.matters(0, 0));
        x.report(0, 0, 0, NONE, NONE, NONE);
        for (int bad : new int[] {-1, 1, 60, Integer.MIN_VALUE, Integer.MAX_VALUE}) {
            Check.dueIndex("9 report " + bad, () -> x.matters(bad, 0));
            Check.dueIndex("9 report first " + bad, () -> x.matters(bad, -1));
        }
        for (int bad : new int[] {-1, 4, Integer.MIN_VALUE, Integer.MAX_VALUE}) {
            Check.dueArgument("9 place " + bad, () -> x.matters(0, bad));
        }
    }
}
