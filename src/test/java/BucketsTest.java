/** Promises 10 to 12: bucket, buckets, size. */
public final class BucketsTest {
    private static final int NONE = CrashBuckets.NONE;

    public static void main(String[] args) {
        Check.runAll(BucketsTest.class);
    }

    // ---- bucket

    @Promise(number = 10, says = "in the same bucket, if they have the same frames that matter, one or more")
    static void sameFrames() {
        CrashBuckets x = new CrashBuckets();
        Scene.mapAll(x, 0);
        Scene.mapAll(x, 1);
        x.report(0, 0, 10, 20, NONE, NONE);
        x.report(0, 1, 18, 28, 30, 40);
        x.report(1, 2, 15, 9999, 25, NONE);
        Check.due("other addresses, and more beyond the depth", 0, x.bucket(1));
        Check.due("another version, and an unknown one between", 0, x.bucket(2));
    }

    @Promise(number = 10, says = "in the same bucket, if they have the same frames that matter, one or more")
    static void otherFrames() {
        CrashBuckets x = new CrashBuckets();
        Scene.mapAll(x, 0);
        x.setDepth(3);
        x.report(0, 0, 10, 20, NONE, NONE);
        x.report(0, 0, 20, 10, NONE, NONE);
        x.report(0, 0, 10, NONE, NONE, NONE);
        x.report(0, 0, 10, 20, 20, NONE);
        x.report(0, 0, 10, 10, 20, NONE);
        Check.due("another order", 1, x.bucket(1));
        Check.due("one fewer", 2, x.bucket(2));
        Check.due("one more", 3, x.bucket(3));
        Check.due("the same ones, another one twice", 4, x.bucket(4));
    }

    /** Rows of one to four frames, function 0 and 29 among them, are all of their own. */
    @Promise(number = 10, says = "in the same bucket, if they have the same frames that matter, one or more")
    static void rowsOfAllLengthsStayApart() {
        int[] some = {0, 1, 28, 29};
        CrashBuckets x = new CrashBuckets();
        Scene.mapAll(x, 3);
        x.setDepth(4);
        int told = 0;
        for (int a : some) {
            Check.due("row of one", told, x.bucket(x.report(3, 0, a * 10, NONE, NONE, NONE)));
            told++;
            for (int b : some) {
                Check.due("row of two", told, x.bucket(x.report(3, 0, a * 10, b * 10, NONE, NONE)));
                told++;
            }
        }
        for (int a : some) {
            for (int b : some) {
                Check.due("row of three", told, x.bucket(x.report(3, 0, a * 10, b * 10, 0, NONE)));
                told++;
            }
        }
        Check.due("row of four", told, x.bucket(x.report(3, 0, 0, 0, 0, 0)));
        Check.due("row of four", told + 1, x.bucket(x.report(3, 0, 290, 290, 290, 290)));
        Check.due("row of four again", told, x.bucket(x.report(3, 1, 8, 8, 8, 8)));
    }

    @Promise(number = 10, says = "if the first addresses of their stacks are the same and their versions are")
    static void withoutFramesByFirstAddress() {
        CrashBuckets x = new CrashBuckets();
        x.report(0, 0, 500, NONE, NONE, NONE);
        x.report(0, 1, 500, 501, 502, 503);
        x.report(0, 0, 501, NONE, NONE, NONE);
        x.report(0, 0, 501, 500, NONE, NONE);
        Check.due("only the first one counts", 0, x.bucket(1));
        Check.due("another address", 2, x.bucket(2));
        Check.due("not the second one", 2, x.bucket(3));
    }

    /** The last address of a version and the first one of the next are not the same either. */
    @Promise(number = 10, says = "if the first addresses of their stacks are the same and their versions are")
    static void withoutFramesByVersion() {
        CrashBuckets x = new CrashBuckets();
        int told = 0;
        for (int version = 0; version < 4; version++) {
            for (int address : new int[] {0, 1, 29, 30, 9998, 9999}) {
                Check.due("version " + version + " address " + address, told,
                        x.bucket(x.report(version, 0, address, NONE, NONE, NONE)));
                told++;
            }
        }
        Check.due("version 3 address 9999 again", told - 1, x.bucket(x.report(3, 1, 9999, 0, 0, 0)));
    }

    /** Each of all first addresses, beside each function alone; the map is that of another version. */
    @Promise(number = 10, says = "if the first addresses of their stacks are the same and their versions are")
    static void withoutFramesEachAddressIsOfItsOwn() {
        for (int version = 0; version < 4; version++) {
            for (int least = 0; least < 10000; least += 30) {
                CrashBuckets x = new CrashBuckets();
                Scene.mapAll(x, 3 - version);
                for (int function = 0; function < 30; function++) {
                    x.report(3 - version, 0, function * 10, NONE, NONE, NONE);
                }
                for (int address = least; address < least + 30 && address < 10000; address++) {
                    int report = x.report(version, 0, address, NONE, NONE, NONE);
                    Check.due("version " + version + " address " + address, report, x.bucket(report));
                }
            }
        }
    }

    @Promise(number = 10, says = "reports without any are in the same bucket")
    static void withAndWithoutFrames() {
        CrashBuckets x = new CrashBuckets();
        x.addRange(0, 0, 9, 0);
        x.report(0, 0, 500, NONE, NONE, NONE);
        x.report(0, 0, 500, 5, NONE, NONE);
        x.report(0, 0, 5, NONE, NONE, NONE);
        Check.due("with a frame, the address is not asked", 1, x.bucket(1));
        Check.due("the frame is", 1, x.bucket(2));
        x.ignore(0, true);
        Check.due("ignored, the address is", 0, x.bucket(1));
        Check.due("its own address", 2, x.bucket(2));
    }

    @Promise(number = 10, says = "A bucket is named by its report with the lowest number.")
    static void namedByTheFirst() {
        CrashBuckets x = new CrashBuckets();
        Scene.tell(x, 1, 0, 0, 1);
        Scene.tell(x, 2, 0, 0, 2);
        Scene.tell(x, 57, 0, 0, 1);
        Check.due("the first names itself", 0, x.bucket(0));
        Check.due("the second names itself", 1, x.bucket(1));
        Check.due("and the third", 1, x.bucket(2));
        Check.due("the first one names the last", 0, x.bucket(59));
    }

    @Promise(number = 10, says = "A bucket is named by its report with the lowest number.")
    static void joinedBucketsTakeTheLowerName() {
        CrashBuckets x = new CrashBuckets();
        Scene.tell(x, 1, 0, 0, 1);
        Scene.tell(x, 2, 0, 0, 2);
        x.addRange(0, 1, 2, 9);
        Check.due("the second", 0, x.bucket(1));
        Check.due("the third", 0, x.bucket(2));
    }

    @Promise(number = 10, says = "A bucket is named by its report with the lowest number.")
    static void splitBucketsTakeANewName() {
        CrashBuckets x = new CrashBuckets();
        x.report(0, 0, 1, 5, NONE, NONE);
        x.report(0, 0, 1, 6, NONE, NONE);
        x.report(0, 0, 1, 6, NONE, NONE);
        Check.due("one by the address", 0, x.bucket(2));
        x.addRange(0, 6, 6, 9);
        Check.due("the first is alone", 0, x.bucket(0));
        Check.due("the second names the others", 1, x.bucket(1));
        Check.due("and the third", 1, x.bucket(2));
    }

    @Promise(number = 10, says = "always by all that has been told so far")
    static void splitAndJoinedByRules() {
        CrashBuckets x = new CrashBuckets();
        Scene.mapAll(x, 0);
        x.report(0, 0, 10, 20, 30, NONE);
        x.report(0, 0, 10, 20, 40, NONE);
        Check.due("depth 2", 0, x.bucket(1));
        x.setDepth(3);
        Check.due("depth 3 splits", 1, x.bucket(1));
        x.standFor(4, 3);
        Check.due("standing for joins", 0, x.bucket(1));
        x.standFor(4, 4);
        Check.due("and splits", 1, x.bucket(1));
        x.ignore(3, true);
        Check.due("one is ignored", 1, x.bucket(1));
        x.ignore(4, true);
        Check.due("both are, which joins", 0, x.bucket(1));
        x.ignore(1, true);
        x.ignore(2, true);
        Check.due("all are, but the address is the same", 0, x.bucket(1));
    }

    @Promise(number = 10, says = "`IndexOutOfBoundsException` if there is no such report")
    static void bucketOfNoReport() {
        CrashBuckets x = new CrashBuckets();
        Check.dueIndex("no reports at all", () -> x.bucket(0));
        Scene.tell(x, 1, 0, 0, 0);
        for (int bad : Check.outside(0, 0)) {
            Check.dueIndex("report " + bad + " of 1", () -> x.bucket(bad));
        }
        Scene.tell(x, 59, 1, 0, 0);
        for (int bad : Check.outside(0, 59)) {
            Check.dueIndex("report " + bad + " of 60", () -> x.bucket(bad));
        }
        Check.due("the last", 1, x.bucket(59));
    }

    @Promise(number = 10, says = "A call that throws changes nothing.")
    static void refusedBucketChangesNothing() {
        CrashBuckets x = Scene.busy();
        String before = Scene.stateOf(x);
        Check.dueIndex("report 3", () -> x.bucket(3));
        Check.dueIndex("report -1", () -> x.bucket(-1));
        Check.dueText("after it", before, Scene.stateOf(x));
    }

    // ---- buckets

    @Promise(number = 11, says = "Returns the number of buckets.")
    static void bucketsOfNoneAndOne() {
        CrashBuckets x = new CrashBuckets();
        Check.due("no reports", 0, x.buckets());
        Scene.tell(x, 1, 0, 0, 1);
        Check.due("one report", 1, x.buckets());
        Scene.tell(x, 59, 0, 0, 1);
        Check.due("60 reports, one bucket", 1, x.buckets());
    }

    @Promise(number = 11, says = "Returns the number of buckets.")
    static void bucketsUpTo60() {
        CrashBuckets x = new CrashBuckets();
        for (int told = 1; told <= 60; told++) {
            Scene.tell(x, 1, 0, 0, told);
            Check.due("each of its own", told, x.buckets());
        }
        x.addRange(0, 1, 59, 2);
        Check.due("all but one join", 2, x.buckets());
        x.addRange(0, 60, 60, 2);
        Check.due("all join", 1, x.buckets());
    }

    @Promise(number = 11, says = "always by all that has been told so far")
    static void bucketsThatSplitAndJoin() {
        CrashBuckets x = new CrashBuckets();
        Scene.tell(x, 2, 0, 0, 1);
        Scene.tell(x, 1, 0, 0, 2);
        Scene.tell(x, 1, 1, 0, 1);
        Check.due("without maps", 3, x.buckets());
        x.addRange(0, 0, 9, 4);
        Check.due("two join", 2, x.buckets());
        x.addRange(1, 0, 9, 4);
        Check.due("all join", 1, x.buckets());
        x.ignore(4, true);
        Check.due("split again", 3, x.buckets());
    }

    // ---- size

    @Promise(number = 12, says = "Returns the number of reports of the bucket of a report.")
    static void sizeFromOneTo60() {
        CrashBuckets x = Scene.joined();
        for (int told = 1; told <= 60; told++) {
            Scene.tell(x, 1, told % 4, told % 20, told % 10);
            Check.due("asked by the first", told, x.size(0));
            Check.due("asked by the last", told, x.size(told - 1));
        }
    }

    @Promise(number = 12, says = "Returns the number of reports of the bucket of a report.")
    static void sizeOfEachBucket() {
        CrashBuckets x = Scene.joined();
        Scene.tell(x, 1, 0, 0, 1);
        Scene.tell(x, 1, 0, 0, 500);
        Scene.tell(x, 1, 3, 0, 2);
        Scene.tell(x, 1, 0, 0, 2);
        Check.due("in all versions", 3, x.size(0));
        Check.due("of one", 1, x.size(1));
        x.addRange(0, 500, 500, 7);
        Check.due("joined", 4, x.size(1));
        x.ignore(7, true);
        Check.due("split", 1, x.size(0));
    }

    @Promise(number = 12, says = "`IndexOutOfBoundsException` if there is no such report")
    static void sizeOfNoReport() {
        CrashBuckets x = new CrashBuckets();
        Check.dueIndex("no reports at all", () -> x.size(0));
        Scene.tell(x, 1, 0, 0, 0);
        for (int bad : Check.outside(0, 0)) {
            Check.dueIndex("report " + bad + " of 1", () -> x.size(bad));
        }
        Scene.tell(x, 59, 1, 0, 0);
        for (int bad : Check.outside(0, 59)) {
            Check.dueIndex("report " + bad + " of 60", () -> x.size(bad));
        }
        Check.due("the last", 59, x.size(59));
    }

    @Promise(number = 12, says = "A call that throws changes nothing.")
    static void refusedSizeChangesNothing() {
        CrashBuckets x = Scene.busy();
        String before = Scene.stateOf(x);
        Check.dueIndex("report 3", () -> x.size(3));
        Check.dueIndex("report -1", () -> x.size(-1));
        Check.dueText("after it", before, Scene.stateOf(x));
    }
}
