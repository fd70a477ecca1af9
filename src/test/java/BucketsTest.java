/** Promises 10 to 12: bucket, buckets, size. */
public final class BucketsTest {
    private static final int NONE = CrashBuckets.NONE;

    public static void main(String[] args) {
        promise10SameFrames();
        promise10WithoutFrames();
        promise10SplitAndJoin();
        promise10NameMoves();
        promise10RowsStayApart();
        promise10Arguments();
        promise11Counts();
        promise12Sizes();
        promise12Arguments();
        Check.end();
    }

    private static void mapAll(CrashBuckets x, int version) {
        for (int function = 0; function < 30; function++) {
            x.addRange(version, function * 10, function * 10 + 9, function);
        }
    }

    private static void promise10SameFrames() {
        CrashBuckets x = new CrashBuckets();
        mapAll(x, 0);
        mapAll(x, 1);
        x.report(0, 0, 10, 20, NONE, NONE);
        x.report(0, 1, 19, 29, 30, 40);
        x.report(1, 2, 15, 9999, 25, NONE);
        x.report(0, 0, 20, 10, NONE, NONE);
        x.report(0, 0, 10, NONE, NONE, NONE);
        x.report(0, 0, 10, 10, 20, NONE);
        Check.due("10 the first names it", 0, x.bucket(0));
        Check.due("10 same functions", 0, x.bucket(1));
        Check.due("10 across versions", 0, x.bucket(2));
        Check.due("10 another order", 3, x.bucket(3));
        Check.due("10 a shorter row", 4, x.bucket(4));
        Check.due("10 the same function twice", 5, x.bucket(5));
    }

    private static void promise10WithoutFrames() {
        CrashBuckets x = new CrashBuckets();
        x.addRange(0, 0, 9, 0);
        x.report(0, 0, 500, NONE, NONE, NONE);
        x.report(1, 0, 500, NONE, NONE, NONE);
        x.report(0, 1, 500, 501, 502, 503);
        x.report(0, 0, 501, NONE, NONE, NONE);
        x.report(0, 0, 501, 500, NONE, NONE);
        x.report(0, 0, 500, 5, NONE, NONE);
        x.report(0, 0, 5, NONE, NONE, NONE);
        Check.due("10 the first", 0, x.bucket(0));
        Check.due("10 another version", 1, x.bucket(1));
        Check.due("10 only the first address counts", 0, x.bucket(2));
        Check.due("10 another address", 3, x.bucket(3));
        Check.due("10 only the first counts again", 3, x.bucket(4));
        Check.due("10 with a frame it is another", 5, x.bucket(5));
        Check.due("10 frames count, not addresses", 5, x.bucket(6));
        x.ignore(0, true);
        Check.due("10 ignored, it joins by the address", 0, x.bucket(5));
        Check.due("10 ignored, by its own address", 6, x.bucket(6));
        x.report(1, 0, 0, NONE, NONE, NONE);
        x.report(0, 0, 9999, NONE, NONE, NONE);
        Check.due("10 neighbours in address and version", 7, x.bucket(7));
        Check.due("10 neighbours in address and version", 8, x.bucket(8));
    }

    private static void promise10SplitAndJoin() {
        CrashBuckets x = new CrashBuckets();
        mapAll(x, 0);
        x.report(0, 0, 10, 20, 30, NONE);
        x.report(0, 0, 10, 20, 40, NONE);
        Check.due("10 depth 2", 0, x.bucket(1));
        x.setDepth(3);
        Check.due("10 depth 3 splits", 1, x.bucket(1));
        x.standFor(4, 3);
        Check.due("10 standing for joins", 0, x.bucket(1));
        x.standFor(4, 4);
        Check.due("10 and splits again", 1, x.bucket(1));
        x.ignore(3, true);
        Check.due("10 one ignored", 1, x.bucket(1));
        x.ignore(4, true);
        Check.due("10 both ignored joins", 0, x.bucket(1));
        x.setDepth(1);
        x.ignore(1, true);
        x.ignore(2, true);
        Check.due("10 no frames, the same address", 0, x.bucket(1));
    }

    private static void promise10NameMoves() {
        CrashBuckets x = new CrashBuckets();
        x.report(0, 0, 1, NONE, NONE, NONE);
        x.report(0, 0, 2, NONE, NONE, NONE);
        x.report(0, 0, 2, NONE, NONE, NONE);
        Check.due("10 named by its first", 1, x.bucket(2));
        x.addRange(0, 1, 2, 9);
        Check.due("10 a range joins", 0, x.bucket(2));
        Check.due("10 a range joins", 0, x.bucket(1));

        CrashBuckets y = new CrashBuckets();
        y.report(0, 0, 1, 5, NONE, NONE);
        y.report(0, 0, 1, 6, NONE, NONE);
        y.report(0, 0, 1, 6, NONE, NONE);
        Check.due("10 one by the address", 0, y.bucket(2));
        y.addRange(0, 6, 6, 9);
        Check.due("10 a range splits", 1, y.bucket(2));
        Check.due("10 the others have a name", 1, y.bucket(1));
        Check.due("10 the first is alone", 0, y.bucket(0));
    }

    /** Every row of one and of two frames is of its own, function 0 and 29 among them. */
    private static void promise10RowsStayApart() {
        int[] some = {0, 1, 28, 29};
        CrashBuckets x = new CrashBuckets();
        mapAll(x, 3);
        x.setDepth(4);
        int told = 0;
        for (int a : some) {
            Check.due("10 row of one", told, x.bucket(x.report(3, 0, a * 10, NONE, NONE, NONE)));
            told++;
            for (int b : some) {
                Check.due("10 row of two", told, x.bucket(x.report(3, 0, a * 10, b * 10, NONE, NONE)));
                told++;
            }
        }
        for (int a : some) {
            for (int b : some) {
                Check.due("10 row of three", told, x.bucket(x.report(3, 0, a * 10, b * 10, 0, NONE)));
                told++;
            }
        }
        Check.due("10 row of four", told, x.bucket(x.report(3, 0, 0, 0, 0, 0)));
        Check.due("10 row of four", told + 1, x.bucket(x.report(3, 0, 290, 290, 290, 290)));
        Check.due("10 row of four again", told, x.bucket(x.report(3, 1, 9, 9, 9, 9)));
    }

    private static void promise10Arguments() {
        CrashBuckets x = new CrashBuckets();
        Check.dueIndex("10 no report", () -> x.bucket(0));
        x.report(0, 0, 0, NONE, NONE, NONE);
        for (int bad : new int[] {-1, 1, 60, Integer.MIN_VALUE, Integer.MAX_VALUE}) {
            Check.dueIndex("10 report " + bad, () -> x.bucket(bad));
        }
    }

    private static void promise11Counts() {
        CrashBuckets x = new CrashBuckets();
        Check.due("11 none", 0, x.buckets());
        x.report(0, 0, 1, NONE, NONE, NONE);
        Check.due("11 one", 1, x.buckets());
        x.report(0, 0, 1, NONE, NONE, NONE);
        Check.due("11 still one", 1, x.buckets());
        x.report(0, 0, 2, NONE, NONE, NONE);
        x.report(1, 0, 1, NONE, NONE, NONE);
        Check.due("11 three", 3, x.buckets());
        x.addRange(0, 0, 9, 4);
        Check.due("11 two join", 2, x.buckets());
        x.addRange(1, 0, 9, 4);
        Check.due("11 all join", 1, x.buckets());
        x.ignore(4, true);
        Check.due("11 split again", 3, x.buckets());
    }

    private static void promise12Sizes() {
        CrashBuckets x = new CrashBuckets();
        x.addRange(0, 0, 9, 4);
        x.addRange(3, 0, 9, 4);
        x.report(0, 0, 1, NONE, NONE, NONE);
        x.report(1, 0, 1, NONE, NONE, NONE);
        x.report(3, 0, 2, NONE, NONE, NONE);
        x.report(0, 0, 2, NONE, NONE, NONE);
        Check.due("12 of its name", 3, x.size(0));
        Check.due("12 of another of its reports", 3, x.size(3));
        Check.due("12 of all versions", 3, x.size(2));
        Check.due("12 of one", 1, x.size(1));
        x.addRange(1, 1, 1, 4);
        Check.due("12 joined", 4, x.size(1));
        x.ignore(4, true);
        Check.due("12 split", 1, x.size(3));
    }

    private static void promise12Arguments() {
        CrashBuckets x = new CrashBuckets();
        Check.dueIndex("12 no report", () -> x.size(0));
        x.report(0, 0, 0, NONE, NONE, NONE);
        for (int bad : new int[] {-1, 1, 60, Integer.MIN_VALUE, Integer.MAX_VALUE}) {
            Check.dueIndex("12 report " + bad, () -> x.size(bad));
        }
    }
}
