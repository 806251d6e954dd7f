/** Promises 27 to 31: snow, year, keep, back, count. */
final class SnowYearsTest {
    private static final Due due = new Due();

    public static void main(String[] args) {
        snowing();
        snowOnEvenDays();
        years();
        keeping();
        counting();
        due.end();
    }

    private static void snow(ApologyBells x, int w, int n, int tenths, int above, int below) {
        String call = "27 snow of " + w + ", " + n + " days, " + tenths;
        due.is(call + " above", x.snow(w, n, tenths, 0), above);
        due.is(call + " below", x.snow(w, n, tenths, 1), below);
    }

    private static void snowing() {
        ApologyBells x = Due.laid("w0,5,1;w0,30,8;w0,5,1;b0,9,0,5,0;b1,9,0,30,0;b2,1,0,5,0;");
        snow(x, 0, 0, 5, 0, 1);
        snow(x, 0, 1, 5, 1, 2);
        snow(x, 0, 1, 4, 3, 5);
        snow(x, 0, 1, 3, 7, 10);
        snow(x, 0, 8, 0, 1, 1);
        snow(x, 0, 8, 10, 0, 1);
        snow(x, 0, 8, 3, 99993439, 100000000);
        snow(x, 1, 7, 0, 0, 1);
        snow(x, 1, 8, 0, 1, 1);
        snow(x, 1, 8, 5, 1, 256);
        snow(x, 1, 8, 9, 1, 100000000);
        // 2 is HEARD the DAY behind that on which 0 is FORGIVEN: two clear DAYS of three.
        snow(x, 2, 3, 5, 1, 2);
        due.is("27 w below", x.snow(-1, 0, 0, 0), ApologyBells.BAD);
        due.is("27 w above", x.snow(3, 0, 0, 0), ApologyBells.BAD);
        due.is("27 n below", x.snow(0, -1, 0, 0), ApologyBells.BAD);
        due.is("27 n above", x.snow(0, 9, 0, 0), ApologyBells.BAD);
        due.is("27 x below", x.snow(0, 0, -1, 0), ApologyBells.BAD);
        due.is("27 x above", x.snow(0, 0, 11, 0), ApologyBells.BAD);
        due.is("27 part below", x.snow(0, 0, 0, -1), ApologyBells.BAD);
        due.is("27 part above", x.snow(0, 0, 0, 2), ApologyBells.BAD);
        due.is("27 nothing changes", x.count(1), 0);
        x.pass(1);
        snow(x, 0, 0, 10, 1, 1);
        snow(x, 0, 3, 10, 1, 1);
    }

    private static void snowOnEvenDays() {
        ApologyBells x = Due.laid("w2,5,1;b0,9,0,5,0;");
        snow(x, 0, 2, 5, 1, 2);
        snow(x, 0, 3, 5, 3, 4);
        x.takeDown(0);
        x.pass(1);
        x.hang(0, 5, 0);
        snow(x, 0, 1, 5, 0, 1);
        snow(x, 0, 2, 5, 1, 2);
    }

    private static void years() {
        // x is 1 for z = 0, k = 0: a DRAW of 1 casts 1 of COPPER, no TIN, for WRONG 0.
        ApologyBells x = Due.laid("w0,5,1;m7,7;");
        due.is("28 CAST", x.year(0, 1, 1), 6);
        due.is("28 not HUNG", x.year(0, 1, 0), 0);
        // z = 1, k = 0: 7920 times 7920 is 957 * 65521 + 22803; 22803 modulo 8 is 3: HUNG at 28 in HOUR 20.
        ApologyBells y = Due.laid("w0,30,1;b0,2,0,0,0;m7,7;");
        due.is("28 nothing else", y.year(0, 1, 0), 0);
        due.is("28 HUNG, HEARD", y.year(1, 1, 0), 1);
        due.is("28 in store again", y.year(1, 1, 1), 9);
        due.is("28 nothing changes", y.bell(0, 2), 0);
        due.is("28 z below", y.year(-1, 1, 0), ApologyBells.BAD);
        due.is("28 z above", y.year(10000, 1, 0), ApologyBells.BAD);
        due.is("28 n below", y.year(0, 0, 0), ApologyBells.BAD);
        due.is("28 n above", y.year(0, 61, 0), ApologyBells.BAD);
        due.is("28 what below", y.year(0, 1, -1), ApologyBells.BAD);
        due.is("28 what above", y.year(0, 1, 2), ApologyBells.BAD);
        due.is("28 an act is not UNDONE for it", y.count(9), 0);
        y.hang(0, 30, 0);
        y.pass(1);
        due.is("28 FORGIVEN already", y.year(0, 5, 0), 1);
    }

    private static void keeping() {
        ApologyBells x = new ApologyBells();
        due.is("30 nothing KEPT", x.back(), ApologyBells.NO);
        x.pass(1);
        due.is("29 keep", x.keep(), 1);
        due.is("29 what can be UNDONE stays", x.count(9), 1);
        x.melt(2);
        x.hang(0, 40, 1);
        due.is("29 keep", x.keep(), 2);
        due.is("29 one too many", x.keep(), ApologyBells.FULL);
        x.pass(9);
        x.note(4, 4);
        x.write('w');
        due.is("30 as KEPT last", x.back(), 1);
        due.are("30 count", x::count, 6, 1, 31, 15, 3, 3, 0, 1, 1, 0, 1, 1);
        due.are("30 bell", what -> x.bell(0, what), 4, 2, 40, 1, 10, 0);
        due.is("30 nothing can be UNDONE", x.undo(), ApologyBells.NO);
        x.pass(2);
        due.is("30 as KEPT first", x.back(), 0);
        due.are("30 count", x::count, 6, 1, 25, 12, 4, 4, 0, 2, 1, 0, 0, 1);
        due.are("30 bell", what -> x.bell(0, what), 4, 2, 9, 8, 10, 0);
        due.are("30 HEARD", what -> x.wrong(0, what), 0, 5, 3, 1, 0, 2);
        due.is("30 nothing left", x.back(), ApologyBells.NO);
        due.is("29 again", x.keep(), 1);
        x.pass(1);
        x.undo();
        due.is("29 UNDONE or not, it is KEPT", x.count(10), 1);
    }

    private static void counting() {
        ApologyBells x = Due.laid("w0,5,1;w2,20,3;w0,40,2;b0,3,1,5,0;b1,3,1,20,0;m40,30;");
        due.are("31 count", x::count, 3, 0, 40, 30, 2, 2, 0, 2, 0, 0, 0, 53, ApologyBells.BAD);
        due.is("31 below", x.count(-1), ApologyBells.BAD);
        x.cast(2, 1, 1);
        x.note(0, 0);
        x.note(0, 0);
        x.keep();
        x.pass(3);
        x.write(' ');
        due.are("31 count", x::count, 3, 3, 42, 30, 2, 1, 1, 0, 2, 2, 1, 54, ApologyBells.BAD);
        x.pass(1);
        due.is("31 HEARD on this DAY", x.count(7), 1);
    }
}
