/** Promises 2 to 5: addRange, ignore, standFor, setDepth. */
public final class MapsAndRulesTest {
    private static final int NONE = CrashBuckets.NONE;

    public static void main(String[] args) {
        Check.runAll(MapsAndRulesTest.class);
    }

    // ---- addRange

    @Promise(number = 2, says = "`version`: 0 to 3")
    static void rangeVersion() {
        CrashBuckets x = new CrashBuckets();
        for (int bad : Check.outside(0, 3)) {
            Check.dueArgument("version " + bad, () -> x.addRange(bad, 0, 9, 5));
        }
        for (int version = 0; version < 4; version++) {
            Check.due("version " + version, 1, x.addRange(version, 0, 9, 5));
        }
    }

    @Promise(number = 2, says = "`from`: 0 to 9999")
    static void rangeFrom() {
        CrashBuckets x = new CrashBuckets();
        for (int bad : Check.outside(0, 9999)) {
            Check.dueArgument("from " + bad, () -> x.addRange(0, bad, Math.max(bad, 9999), 5));
            Check.dueArgument("from " + bad + " to 9999", () -> x.addRange(0, bad, 9999, 5));
        }
        Check.due("from 9999", 1, x.addRange(0, 9999, 9999, 5));
        Check.due("from 0", 2, x.addRange(0, 0, 9998, 5));
    }

    @Promise(number = 2, says = "`to`: from to 9999, included")
    static void rangeTo() {
        CrashBuckets x = new CrashBuckets();
        for (int bad : Check.outside(7, 9999)) {
            Check.dueArgument("from 7 to " + bad, () -> x.addRange(0, 7, bad, 5));
        }
        Check.dueArgument("from 9999 to 9998", () -> x.addRange(0, 9999, 9998, 5));
        Check.dueArgument("from 9999 to 0", () -> x.addRange(0, 9999, 0, 5));
        Check.due("to its from", 1, x.addRange(0, 7, 7, 5));
        Check.due("to 9999", 2, x.addRange(0, 8, 9999, 6));
        Check.due("to 0", 3, x.addRange(0, 0, 0, 4));
        int report = x.report(0, 0, 7, 8, 9999, 0);
        Check.due("the one address of the first", 5, x.frame(report, 0));
        Check.due("from is included", 6, x.frame(report, 1));
        Check.due("to is included", 6, x.frame(report, 2));
        Check.due("the one address of the last", 4, x.frame(report, 3));
    }

    @Promise(number = 2, says = "`function`: 0 to 29")
    static void rangeFunction() {
        CrashBuckets x = new CrashBuckets();
        for (int bad : Check.outside(0, 29)) {
            Check.dueArgument("function " + bad, () -> x.addRange(0, 0, 9, bad));
        }
        Check.due("function 0", 1, x.addRange(0, 0, 9, 0));
        Check.due("function 29", 2, x.addRange(0, 10, 19, 29));
        int report = x.report(0, 0, 9, 10, NONE, NONE);
        Check.due("frame of 0", 0, x.frame(report, 0));
        Check.due("frame of 29", 29, x.frame(report, 1));
    }

    @Promise(number = 2, says = "Returns how many ranges the map has then.")
    static void rangeCounts() {
        CrashBuckets x = new CrashBuckets();
        for (int range = 0; range < 30; range++) {
            for (int version = 0; version < 4; version++) {
                if (range < 29 || version != 2) {
                    Check.due("map " + version, range + 1, x.addRange(version, 9999 - range, 9999 - range, 3));
                }
            }
        }
        Check.due("a map that had 29", 30, x.addRange(2, 0, 0, 3));
    }

    /** All pairs of ranges on six addresses: touching, sharing one, inside, around, the same. */
    @Promise(number = 2, says = "ranges of a version do not overlap")
    static void rangesOverlapInOneAddressOrMore() {
        for (int from = 0; from < 6; from++) {
            for (int to = from; to < 6; to++) {
                for (int secondFrom = 0; secondFrom < 6; secondFrom++) {
                    for (int secondTo = secondFrom; secondTo < 6; secondTo++) {
                        twoRanges(from, to, secondFrom, secondTo);
                    }
                }
            }
        }
    }

    private static void twoRanges(int from, int to, int secondFrom, int secondTo) {
        boolean shared = false;
        for (int address = from; address <= to; address++) {
            shared |= secondFrom <= address && address <= secondTo;
        }
        CrashBuckets x = new CrashBuckets();
        x.addRange(1, from, to, 4);
        String what = from + " to " + to + ", then " + secondFrom + " to " + secondTo;
        if (shared) {
            Check.dueState(what, () -> x.addRange(1, secondFrom, secondTo, 5));
        } else {
            Check.due(what, 2, x.addRange(1, secondFrom, secondTo, 5));
        }
    }

    @Promise(number = 2, says = "`IllegalStateException` if it overlaps with one of the map")
    static void rangeOverlapsWithAnyOfThem() {
        CrashBuckets x = new CrashBuckets();
        x.addRange(0, 10, 19, 1);
        x.addRange(0, 9990, 9999, 2);
        x.addRange(0, 30, 39, 3);
        Check.dueState("the first", () -> x.addRange(0, 0, 10, 1));
        Check.dueState("one in the middle", () -> x.addRange(0, 9999, 9999, 2));
        Check.dueState("the last", () -> x.addRange(0, 39, 40, 3));
        Check.dueState("all of them", () -> x.addRange(0, 0, 9999, 4));
        Check.due("between them", 4, x.addRange(0, 20, 29, 1));
        Check.due("behind them", 5, x.addRange(0, 40, 9989, 1));
        Check.due("ahead of them", 6, x.addRange(0, 0, 9, 1));
        Check.dueState("no address is left", () -> x.addRange(0, 40, 40, 1));
    }

    @Promise(number = 2, says = "`IllegalStateException` if it overlaps with one of the map")
    static void rangesOfOtherVersionsMayOverlap() {
        CrashBuckets x = new CrashBuckets();
        for (int version = 0; version < 4; version++) {
            Check.due("the whole map of " + version, 1, x.addRange(version, 0, 9999, version));
        }
    }

    @Promise(number = 2, says = "if it overlaps with one of the map, or that has 30")
    static void mapIsFull() {
        for (int version = 0; version < 4; version++) {
            CrashBuckets x = new CrashBuckets();
            int full = version;
            Scene.mapAll(x, full);
            Check.dueState("range 31", () -> x.addRange(full, 5000, 5000, 0));
            Check.dueState("range 31, overlapping", () -> x.addRange(full, 0, 0, 0));
            for (int other = 0; other < 4; other++) {
                if (other != full) {
                    Check.due("another map", 1, x.addRange(other, 5000, 5000, 0));
                }
            }
        }
    }

    @Promise(number = 2, says = "if several apply, the one that it lists first is thrown")
    static void rangeArgumentComesFirst() {
        CrashBuckets x = new CrashBuckets();
        Scene.mapAll(x, 0);
        x.addRange(1, 0, 99, 1);
        Check.dueArgument("function, and it overlaps", () -> x.addRange(1, 50, 50, 30));
        Check.dueArgument("to, and it overlaps", () -> x.addRange(1, 50, 10000, 2));
        Check.dueArgument("from, and it overlaps", () -> x.addRange(1, -1, 50, 2));
        Check.dueArgument("function, and 30 ranges", () -> x.addRange(0, 5000, 5000, -1));
        Check.dueArgument("to below from, and 30 ranges", () -> x.addRange(0, 5000, 4999, 2));
    }

    @Promise(number = 2, says = "A call that throws changes nothing.")
    static void refusedRangeChangesNothing() {
        CrashBuckets x = Scene.busy();
        String before = Scene.stateOf(x);
        Check.dueArgument("version", () -> x.addRange(4, 500, 600, 2));
        Check.dueArgument("from", () -> x.addRange(0, -1, 600, 2));
        Check.dueArgument("to", () -> x.addRange(0, 500, 10000, 2));
        Check.dueArgument("function", () -> x.addRange(0, 500, 600, 30));
        Check.dueText("after arguments out of range", before, Scene.stateOf(x));
        Check.dueState("overlap", () -> x.addRange(0, 199, 600, 2));
        Check.dueState("overlap", () -> x.addRange(1, 99, 9999, 2));
        Check.dueText("after overlaps", before, Scene.stateOf(x));
        Check.due("ranges", 3, x.addRange(0, 500, 500, 2));
        Check.due("ranges", 2, x.addRange(1, 600, 600, 2));
    }

    @Promise(number = 2, says = "A call that throws changes nothing.")
    static void refusedRange31ChangesNothing() {
        CrashBuckets x = Scene.busy();
        for (int range = 2; range < 30; range++) {
            x.addRange(0, 7000 + range, 7000 + range, 3);
        }
        String before = Scene.stateOf(x);
        Check.dueState("range 31", () -> x.addRange(0, 500, 600, 2));
        Check.dueText("after a full map", before, Scene.stateOf(x));
        Check.dueState("range 31, which overlaps too", () -> x.addRange(0, 199, 600, 2));
        Check.dueText("after both", before, Scene.stateOf(x));
        int report = x.report(0, 0, 7002, 7029, 7030, 500);
        Check.due("range 3", 3, x.frame(report, 0));
        Check.due("range 30", 3, x.frame(report, 1));
        Check.due("behind range 30", NONE, x.frame(report, 2));
        Check.due("range 31", NONE, x.frame(report, 3));
    }

    // ---- ignore

    @Promise(number = 3, says = "`function`: 0 to 29")
    static void ignoreFunction() {
        CrashBuckets x = new CrashBuckets();
        for (int bad : Check.outside(0, 29)) {
            Check.dueArgument("function " + bad, () -> x.ignore(bad, true));
            Check.dueArgument("function " + bad, () -> x.ignore(bad, false));
        }
        Scene.mapAll(x, 0);
        int report = x.report(0, 0, 0, 290, NONE, NONE);
        Check.due("function 29", false, x.ignore(29, true));
        Check.due("function 0 is left", 0, x.matters(report, 0));
        Check.due("function 0", false, x.ignore(0, true));
        Check.due("none is left", NONE, x.matters(report, 0));
    }

    @Promise(number = 3, says = "Returns whether it was.")
    static void ignoreAnswersWhetherItWas() {
        CrashBuckets x = new CrashBuckets();
        Check.due("at first", false, x.ignore(29, true));
        Check.due("ignored again", true, x.ignore(29, true));
        Check.due("another one", false, x.ignore(28, false));
        Check.due("not any more", true, x.ignore(29, false));
        Check.due("not again", false, x.ignore(29, false));
    }

    @Promise(number = 3, says = "Lets a function be ignored, or not.")
    static void ignoreAndBack() {
        CrashBuckets x = new CrashBuckets();
        x.addRange(0, 0, 9, 6);
        int report = x.report(0, 0, 5, NONE, NONE, NONE);
        x.ignore(6, true);
        x.ignore(6, true);
        Check.due("ignored", NONE, x.matters(report, 0));
        x.ignore(6, false);
        Check.due("one call ends it", 6, x.matters(report, 0));
        x.ignore(6, false);
        Check.due("not ignored", 6, x.matters(report, 0));
        x.ignore(5, true);
        Check.due("another one is", 6, x.matters(report, 0));
    }

    @Promise(number = 3, says = "A call that throws changes nothing.")
    static void refusedIgnoreChangesNothing() {
        CrashBuckets x = Scene.busy();
        String before = Scene.stateOf(x);
        for (int bad : Check.outside(0, 29)) {
            Check.dueArgument("function " + bad, () -> x.ignore(bad, true));
            Check.dueArgument("function " + bad, () -> x.ignore(bad, false));
        }
        Check.dueText("after it", before, Scene.stateOf(x));
    }

    // ---- standFor

    @Promise(number = 4, says = "`function`: 0 to 29")
    static void standForFunction() {
        CrashBuckets x = new CrashBuckets();
        for (int bad : Check.outside(0, 29)) {
            Check.dueArgument("function " + bad, () -> x.standFor(bad, 0));
            Check.dueArgument("function and other " + bad, () -> x.standFor(bad, bad));
        }
        Check.due("function 0", 0, x.standFor(0, 15));
        Check.due("function 29", 29, x.standFor(29, 15));
    }

    @Promise(number = 4, says = "`other`: 0 to 29")
    static void standForOther() {
        CrashBuckets x = new CrashBuckets();
        for (int bad : Check.outside(0, 29)) {
            Check.dueArgument("other " + bad, () -> x.standFor(15, bad));
        }
        Check.due("other 0", 15, x.standFor(15, 0));
        Check.due("other 29", 0, x.standFor(15, 29));
        Check.due("it was taken", 29, x.standFor(15, 15));
    }

    @Promise(number = 4, says = "Returns for which it stood itself.")
    static void standForAnswersTheNextNotTheEnd() {
        CrashBuckets x = new CrashBuckets();
        Check.due("at first itself", 0, x.standFor(0, 1));
        Check.due("then the other", 1, x.standFor(0, 2));
        Check.due("the same again", 2, x.standFor(0, 2));
        Check.due("the other stands for itself", 2, x.standFor(2, 29));
        Check.due("the next, not the end", 2, x.standFor(0, 0));
        Check.due("itself again", 0, x.standFor(0, 0));
    }

    @Promise(number = 4, says = "Lets a function stand for another one, or for itself.")
    static void standForItselfIsNeverARing() {
        CrashBuckets x = new CrashBuckets();
        x.standFor(1, 2);
        x.standFor(2, 3);
        Check.due("at the end of a chain", 3, x.standFor(3, 3));
        Check.due("in the middle", 3, x.standFor(2, 2));
        Check.due("at the start", 2, x.standFor(1, 1));
        Check.due("alone", 0, x.standFor(0, 0));
    }

    @Promise(number = 4, says = "if both are not the same, and going on from other one comes to function")
    static void standForRefusesRings() {
        CrashBuckets x = new CrashBuckets();
        x.standFor(1, 2);
        Check.dueState("a ring of two", () -> x.standFor(2, 1));
        x.standFor(2, 3);
        Check.dueState("a ring of three", () -> x.standFor(3, 1));
        Check.dueState("a ring of two at the end", () -> x.standFor(3, 2));
        x.standFor(2, 2);
        Check.due("the chain is cut", 3, x.standFor(3, 1));
        Check.dueState("the chain is another", () -> x.standFor(2, 3));
    }

    @Promise(number = 4, says = "if both are not the same, and going on from other one comes to function")
    static void standForRefusesTheLongestRing() {
        CrashBuckets x = new CrashBuckets();
        for (int function = 0; function < 29; function++) {
            Check.due("a link", function, x.standFor(function, function + 1));
        }
        Check.dueState("a ring of all 30", () -> x.standFor(29, 0));
        Check.dueState("a ring of 29", () -> x.standFor(29, 1));
        Check.dueState("a ring of two", () -> x.standFor(29, 28));
    }

    @Promise(number = 4, says = "if both are not the same, and going on from other one comes to function")
    static void standForTakesWhatIsNoRing() {
        CrashBuckets x = new CrashBuckets();
        x.standFor(1, 2);
        x.standFor(2, 3);
        Check.due("further along its own chain", 2, x.standFor(1, 3));
        Check.due("two for one", 0, x.standFor(0, 3));
        Check.due("into the middle of a chain", 3, x.standFor(1, 2));
        Check.due("the end for a new one", 3, x.standFor(3, 4));
        Check.due("one that others stand for, for one of another chain", 3, x.standFor(2, 0));
    }

    @Promise(number = 4, says = "if several apply, the one that it lists first is thrown")
    static void standForArgumentComesFirst() {
        CrashBuckets x = new CrashBuckets();
        x.standFor(29, 0);
        Check.dueArgument("other 30 of one that another stands for", () -> x.standFor(0, 30));
        Check.dueArgument("function 30 for one of a chain", () -> x.standFor(30, 29));
        Check.dueArgument("function -1 for the end of a chain", () -> x.standFor(-1, 0));
        Check.dueState("only a ring", () -> x.standFor(0, 29));
    }

    @Promise(number = 4, says = "A call that throws changes nothing.")
    static void refusedStandForChangesNothing() {
        CrashBuckets x = Scene.busy();
        String before = Scene.stateOf(x);
        Check.dueArgument("function 30", () -> x.standFor(30, 1));
        Check.dueArgument("other 30", () -> x.standFor(1, 30));
        Check.dueArgument("other -1", () -> x.standFor(29, -1));
        Check.dueText("after arguments out of range", before, Scene.stateOf(x));
        Check.dueState("a ring", () -> x.standFor(1, 0));
        Check.dueText("after a ring", before, Scene.stateOf(x));
    }

    // ---- setDepth

    @Promise(number = 5, says = "`depth`: 1 to 4")
    static void depthSpan() {
        CrashBuckets x = new CrashBuckets();
        x.addRange(0, 0, 9, 8);
        int report = x.report(0, 0, 0, 1, 2, 3);
        for (int bad : Check.outside(1, 4)) {
            Check.dueArgument("depth " + bad, () -> x.setDepth(bad));
        }
        Check.due("depth 1", 2, x.setDepth(1));
        Check.due("one matters", 8, x.matters(report, 0));
        Check.due("no second", NONE, x.matters(report, 1));
        Check.due("depth 4", 1, x.setDepth(4));
        Check.due("all four matter", 8, x.matters(report, 3));
    }

    @Promise(number = 5, says = "Returns the depth before.")
    static void depthBefore() {
        CrashBuckets x = new CrashBuckets();
        Check.due("at first", 2, x.setDepth(1));
        Check.due("least", 1, x.setDepth(4));
        Check.due("greatest", 4, x.setDepth(3));
        Check.due("the same again", 3, x.setDepth(3));
        Check.due("still the same", 3, x.setDepth(2));
    }

    @Promise(number = 5, says = "A call that throws changes nothing.")
    static void refusedDepthChangesNothing() {
        CrashBuckets x = Scene.busy();
        String before = Scene.stateOf(x);
        for (int bad : Check.outside(1, 4)) {
            Check.dueArgument("depth " + bad, () -> x.setDepth(bad));
        }
        Check.dueText("after it", before, Scene.stateOf(x));
        Check.due("depth", 3, x.setDepth(3));
    }
}
