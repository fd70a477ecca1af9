/** Promises 1 to 5: a new object, addRange, ignore, standFor, setDepth. */
public final class MapsAndRulesTest {
    private static final int NONE = CrashBuckets.NONE;
    private static final int[] OUTSIDE = {Integer.MIN_VALUE, -2, -1};

    public static void main(String[] args) {
        promise1NewObject();
        promise1ObjectsAreApart();
        promise2Counts();
        promise2Arguments();
        promise2Overlaps();
        promise2Full();
        promise2ThrowingChangesNothing();
        promise3Answers();
        promise3Arguments();
        promise4Answers();
        promise4Rings();
        promise4Arguments();
        promise5Answers();
        promise5Arguments();
        Check.end();
    }

    private static void promise1NewObject() {
        CrashBuckets x = new CrashBuckets();
        Check.due("1 reports", 0, x.reports());
        Check.due("1 buckets", 0, x.buckets());
        for (int version = 0; version < 4; version++) {
            Check.due("1 gate", CrashBuckets.SLOW, x.gate(version));
            Check.due("1 worst", NONE, x.worst(version));
            Check.due("1 sessions", 0, x.setSessions(version, 0));
            Check.due("1 empty map", 1, x.addRange(version, 0, 9999, 0));
        }
        for (int function = 0; function < 30; function++) {
            Check.due("1 not ignored", false, x.ignore(function, false));
            Check.due("1 stands for itself", function, x.standFor(function, function));
        }
        Check.due("1 depth", 2, x.setDepth(2));
        Check.due("1 limit", 100, x.setLimit(100));
        Check.dueIndex("1 frame", () -> x.frame(0, 0));
    }

    private static void promise1ObjectsAreApart() {
        CrashBuckets x = new CrashBuckets();
        x.addRange(0, 0, 9, 1);
        x.ignore(1, true);
        x.standFor(2, 3);
        x.setDepth(4);
        x.report(0, 0, 0, NONE, NONE, NONE);
        x.setSessions(0, 7);
        x.setLimit(9);
        x.fix(0, 1);
        promise1NewObject();
    }

    private static void promise2Counts() {
        CrashBuckets x = new CrashBuckets();
        Check.due("2 first", 1, x.addRange(0, 10, 19, 5));
        Check.due("2 second", 2, x.addRange(0, 20, 29, 5));
        Check.due("2 other version", 1, x.addRange(3, 10, 19, 29));
        Check.due("2 one address", 3, x.addRange(0, 0, 0, 0));
        Check.due("2 last address", 4, x.addRange(0, 9999, 9999, 0));
        Check.due("2 between", 5, x.addRange(0, 30, 9998, 1));
        Check.due("2 exact gap", 6, x.addRange(0, 1, 9, 2));
    }

    private static void promise2Arguments() {
        CrashBuckets x = new CrashBuckets();
        for (int bad : OUTSIDE) {
            Check.dueArgument("2 version", () -> x.addRange(bad, 0, 1, 0));
            Check.dueArgument("2 from", () -> x.addRange(0, bad, 1, 0));
            Check.dueArgument("2 to", () -> x.addRange(0, 0, bad, 0));
            Check.dueArgument("2 function", () -> x.addRange(0, 0, 1, bad));
        }
        Check.dueArgument("2 version 4", () -> x.addRange(4, 0, 1, 0));
        Check.dueArgument("2 from 10000", () -> x.addRange(0, 10000, 10000, 0));
        Check.dueArgument("2 to 10000", () -> x.addRange(0, 0, 10000, 0));
        Check.dueArgument("2 to below from", () -> x.addRange(0, 5, 4, 0));
        Check.dueArgument("2 function 30", () -> x.addRange(0, 0, 1, 30));
        Check.dueArgument("2 greatest", () -> x.addRange(Integer.MAX_VALUE, 0, 1, 0));
        Check.dueArgument("2 to greatest", () -> x.addRange(0, 0, Integer.MAX_VALUE, 0));
        Check.due("2 nothing was added", 1, x.addRange(0, 0, 9999, 29));
        Check.dueArgument("2 argument before overlap", () -> x.addRange(0, 0, 0, 30));
    }

    private static void promise2Overlaps() {
        CrashBuckets x = new CrashBuckets();
        x.addRange(1, 100, 200, 4);
        Check.dueState("2 same", () -> x.addRange(1, 100, 200, 4));
        Check.dueState("2 at its start", () -> x.addRange(1, 50, 100, 4));
        Check.dueState("2 at its end", () -> x.addRange(1, 200, 300, 4));
        Check.dueState("2 inside", () -> x.addRange(1, 150, 150, 4));
        Check.dueState("2 around", () -> x.addRange(1, 0, 9999, 5));
        Check.due("2 before it", 2, x.addRange(1, 0, 99, 4));
        Check.due("2 behind it", 3, x.addRange(1, 201, 201, 4));
        Check.dueState("2 with a later one", () -> x.addRange(1, 201, 202, 4));
        Check.due("2 same in another version", 1, x.addRange(2, 100, 200, 4));
    }

    private static void promise2Full() {
        CrashBuckets x = new CrashBuckets();
        for (int range = 0; range < 30; range++) {
            Check.due("2 count", range + 1, x.addRange(2, range * 10, range * 10 + 8, range));
        }
        Check.dueState("2 full", () -> x.addRange(2, 5000, 5000, 0));
        Check.dueState("2 full and overlapping", () -> x.addRange(2, 0, 0, 0));
        Check.dueArgument("2 argument before full", () -> x.addRange(2, 5000, 4999, 0));
        Check.due("2 others are not full", 1, x.addRange(3, 5000, 5000, 0));
        int report = x.report(2, 0, 5000, 290, 298, 299);
        Check.due("2 was not added", NONE, x.frame(report, 0));
        Check.due("2 the last one's start", 29, x.frame(report, 1));
        Check.due("2 the last one's end", 29, x.frame(report, 2));
        Check.due("2 behind the last one", NONE, x.frame(report, 3));
    }

    private static void promise2ThrowingChangesNothing() {
        CrashBuckets x = new CrashBuckets();
        int report = x.report(0, 0, 50, 150, NONE, NONE);
        x.addRange(0, 100, 200, 7);
        Check.dueState("2 overlap", () -> x.addRange(0, 0, 100, 8));
        Check.due("2 still unknown", NONE, x.frame(report, 0));
        Check.due("2 still its function", 7, x.frame(report, 1));
        Check.due("2 still one range", 2, x.addRange(0, 0, 99, 8));
        Check.due("2 now known", 8, x.frame(report, 0));
    }

    private static void promise3Answers() {
        CrashBuckets x = new CrashBuckets();
        Check.due("3 at first", false, x.ignore(29, true));
        Check.due("3 then", true, x.ignore(29, true));
        Check.due("3 others", false, x.ignore(28, false));
        Check.due("3 back", true, x.ignore(29, false));
        Check.due("3 in the end", false, x.ignore(29, false));
    }

    private static void promise3Arguments() {
        CrashBuckets x = new CrashBuckets();
        for (int bad : new int[] {-1, 30, Integer.MIN_VALUE, Integer.MAX_VALUE}) {
            Check.dueArgument("3 function " + bad, () -> x.ignore(bad, true));
            Check.dueArgument("3 function " + bad, () -> x.ignore(bad, false));
        }
        Check.due("3 first function", false, x.ignore(0, true));
        Check.due("3 last function", false, x.ignore(29, true));
    }

    private static void promise4Answers() {
        CrashBuckets x = new CrashBuckets();
        Check.due("4 itself", 0, x.standFor(0, 0));
        Check.due("4 at first itself", 0, x.standFor(0, 1));
        Check.due("4 then the other", 1, x.standFor(0, 2));
        Check.due("4 to the same again", 2, x.standFor(0, 2));
        Check.due("4 a longer chain", 2, x.standFor(2, 29));
        Check.due("4 answers the next, not the end", 2, x.standFor(0, 0));
        Check.due("4 back at itself", 0, x.standFor(0, 0));
    }

    private static void promise4Rings() {
        CrashBuckets x = new CrashBuckets();
        x.standFor(1, 2);
        Check.dueState("4 ring of two", () -> x.standFor(2, 1));
        x.standFor(2, 3);
        Check.dueState("4 ring of three", () -> x.standFor(3, 1));
        Check.dueState("4 ring of two at the end", () -> x.standFor(3, 2));
        Check.due("4 throwing changed nothing", 3, x.standFor(3, 3));
        Check.due("4 itself is never a ring", 2, x.standFor(1, 1));
        Check.due("4 now it is free", 3, x.standFor(3, 1));
        Check.due("4 to one behind in the chain", 3, x.standFor(2, 1));

        CrashBuckets y = new CrashBuckets();
        for (int function = 0; function < 29; function++) {
            Check.due("4 long chain", function, y.standFor(function, function + 1));
        }
        Check.dueState("4 ring of thirty", () -> y.standFor(29, 0));
        y.addRange(0, 0, 0, 0);
        Check.due("4 end of thirty", 29, y.matters(y.report(0, 0, 0, NONE, NONE, NONE), 0));
    }

    private static void promise4Arguments() {
        CrashBuckets x = new CrashBuckets();
        for (int bad : new int[] {-1, 30, Integer.MIN_VALUE, Integer.MAX_VALUE}) {
            Check.dueArgument("4 function " + bad, () -> x.standFor(bad, 0));
            Check.dueArgument("4 other " + bad, () -> x.standFor(0, bad));
            Check.dueArgument("4 both " + bad, () -> x.standFor(bad, bad));
        }
        Check.due("4 bounds", 29, x.standFor(29, 0));
    }

    private static void promise5Answers() {
        CrashBuckets x = new CrashBuckets();
        Check.due("5 at first 2", 2, x.setDepth(1));
        Check.due("5 then 1", 1, x.setDepth(4));
        Check.due("5 then 4", 4, x.setDepth(3));
        Check.due("5 then 3", 3, x.setDepth(3));
    }

    private static void promise5Arguments() {
        CrashBuckets x = new CrashBuckets();
        for (int bad : new int[] {0, 5, -1, Integer.MIN_VALUE, Integer.MAX_VALUE}) {
            Check.dueArgument("5 depth " + bad, () -> x.setDepth(bad));
        }
        Check.due("5 nothing changed", 2, x.setDepth(2));
    }
}
