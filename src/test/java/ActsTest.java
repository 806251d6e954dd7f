/** Promises 11 to 16: cast, hang, takeDown, melt, pass, undo. */
final class ActsTest {
    private static final Due due = new Due();

    public static void main(String[] args) {
        casting();
        hanging();
        takingDown();
        melting();
        passing();
        forgivenTogether();
        undoing();
        undoingAtMostEight();
        refusedActsAreNotUndone();
        due.end();
    }

    private static void casting() {
        ApologyBells x = Due.laid("w0,5,1;w0,6,1;w0,7,1;m12,9;b2,5,0,7,0;");
        due.is("11 w below", x.cast(-1, 1, 0), ApologyBells.BAD);
        due.is("11 w above", x.cast(3, 1, 0), ApologyBells.BAD);
        due.is("11 no COPPER", x.cast(0, 0, 0), ApologyBells.BAD);
        due.is("11 COPPER above", x.cast(0, 31, 0), ApologyBells.BAD);
        due.is("11 TIN below", x.cast(0, 1, -1), ApologyBells.BAD);
        due.is("11 TIN above", x.cast(0, 1, 31), ApologyBells.BAD);
        due.is("11 more COPPER than in store", x.cast(0, 13, 0), ApologyBells.NO);
        due.is("11 more TIN than in store", x.cast(0, 1, 10), ApologyBells.NO);
        due.is("11 it has one", x.cast(2, 1, 0), ApologyBells.NO);
        due.is("11 BAD ahead of NO", x.cast(2, 0, 0), ApologyBells.BAD);
        due.are("11 nothing changed", x::count, 3, 0, 12, 9, 1, 1, 0, 1, 0, 0);
        due.is("11 a cracked one", x.cast(0, 2, 3), 3);
        due.are("11 out of the store", x::count, 3, 0, 10, 6, 2, 1, 0, 1, 0, 1);
        due.is("11 does not hang yet", x.wrong(0, 5), 1);
        due.is("11 all that is left", x.cast(1, 10, 6), 26);
        due.are("11 nothing in store", x::count, 3, 0, 0, 0, 3, 1);
        x.pass(1);
        due.is("11 FORGIVEN", x.wrong(2, 4), 1);
        due.is("11 not for one that is FORGIVEN", x.cast(2, 1, 0), ApologyBells.NO);
    }

    private static void hanging() {
        ApologyBells x = Due.laid("w0,5,1;w0,5,1;w0,9,9;w0,20,9;w0,0,9;b0,3,0,5,0;m12,9;");
        x.pass(1);
        due.is("12 FORGIVEN", x.wrong(0, 4), 1);
        due.is("12 no BELL", x.hang(0, 5, 0), ApologyBells.NO);
        x.cast(1, 3, 0);
        due.is("12 w below", x.hang(-1, 5, 0), ApologyBells.BAD);
        due.is("12 w above", x.hang(5, 5, 0), ApologyBells.BAD);
        due.is("12 place below", x.hang(1, -1, 0), ApologyBells.BAD);
        due.is("12 place above", x.hang(1, 41, 0), ApologyBells.BAD);
        due.is("12 hour below", x.hang(1, 5, -1), ApologyBells.BAD);
        due.is("12 hour above", x.hang(1, 5, 24), ApologyBells.BAD);
        due.is("12 BAD ahead of NO", x.hang(0, 5, 24), ApologyBells.BAD);
        due.is("12 nothing changed", x.wrong(1, 5), 1);
        due.is("12 who else, a FORGIVEN one too", x.hang(1, 5, 23), 3);
        due.are("12 it hangs", what -> x.bell(1, what), 3, 0, 5, 23, 6, 0);
        due.is("12 in place of where it hangs", x.hang(1, 40, 0), 0);
        due.are("12 there", what -> x.bell(1, what), 3, 0, 40, 0, 6, 0);
        due.is("12 1 LOUD", x.hang(1, 4, 0), 3);
        due.is("12 0 LOUD at 9", x.hang(1, 3, 0), 2);
    }

    private static void takingDown() {
        ApologyBells x = Due.laid("w0,5,1;w0,6,1;b0,3,2,40,7;m12,9;");
        due.is("13 w below", x.takeDown(-1), ApologyBells.BAD);
        due.is("13 w above", x.takeDown(2), ApologyBells.BAD);
        due.is("13 no BELL", x.takeDown(1), ApologyBells.NO);
        due.is("13 where it hung", x.takeDown(0), 40);
        due.are("13 it is there still", what -> x.bell(0, what), 3, 2, -4, -4, 8, 0);
        due.are("13 not in store", x::count, 2, 0, 12, 9, 1, 0);
        due.is("13 does not hang", x.takeDown(0), ApologyBells.NO);
    }

    private static void melting() {
        ApologyBells x = Due.laid("w0,5,1;w0,6,1;b0,30,20,40,7;m99,99;");
        due.is("14 w below", x.melt(-1), ApologyBells.BAD);
        due.is("14 w above", x.melt(2), ApologyBells.BAD);
        due.is("14 no BELL", x.melt(1), ApologyBells.NO);
        due.is("14 COPPER in store", x.melt(0), 129);
        due.are("14 in store", x::count, 2, 0, 129, 119, 0, 0, 0, 0);
        due.is("14 there is none", x.melt(0), ApologyBells.NO);
        x.cast(0, 2, 3);
        due.is("14 one that does not hang", x.melt(0), 129);
        due.is("14 TIN", x.count(3), 119);
    }

    private static void passing() {
        ApologyBells x = Due.laid("w2,5,2;w0,6,20;b0,3,0,5,7;b1,3,0,6,8;m1,2;");
        due.is("15 no DAY", x.pass(0), ApologyBells.BAD);
        due.is("15 below", x.pass(-1), ApologyBells.BAD);
        due.is("15 too many", x.pass(25), ApologyBells.BAD);
        due.is("15 a DAY", x.pass(1), 1);
        due.is("15 HEARD on DAY 0", x.wrong(0, 3), 1);
        due.is("15 another", x.pass(1), 2);
        due.is("15 not on DAY 1", x.wrong(0, 3), 1);
        due.is("15 not FORGIVEN", x.wrong(0, 4), 0);
        due.is("15 another", x.pass(1), 3);
        due.are("15 FORGIVEN, MELTED", what -> x.wrong(0, what), 2, 5, 2, 2, 1, 0);
        due.are("15 in store again", x::count, 2, 3, 4, 2, 1, 1, 1, 1);
        due.is("15 24 DAYS", x.pass(24), 27);
        due.are("15 FORGIVEN at N", what -> x.wrong(1, what), 0, 6, 20, 20, 1, 0);
        due.are("15 all in store", x::count, 2, 27, 7, 2, 0, 0, 2, 0);
    }

    private static void forgivenTogether() {
        // The first is FORGIVEN on DAY 0; the other is COVERED by it on that DAY still.
        ApologyBells x = Due.laid("w0,5,1;w0,6,1;b0,9,4,5,7;b1,3,0,6,7;m0,0;");
        x.pass(1);
        due.is("15 FORGIVEN", x.wrong(0, 4), 1);
        due.is("15 by how they hang ahead", x.wrong(1, 3), 0);
        due.is("15 COPPER", x.count(2), 9);
        due.is("15 TIN", x.count(3), 4);
        x.pass(1);
        due.is("15 then it is HEARD", x.wrong(1, 4), 1);
    }

    private static void undoing() {
        ApologyBells x = Due.laid("w0,5,1;w0,6,1;b0,9,4,5,7;m20,20;");
        due.is("16 nothing yet", x.undo(), ApologyBells.NO);
        x.pass(3);
        x.cast(1, 2, 1);
        x.hang(1, 8, 9);
        x.hang(1, 30, 10);
        x.takeDown(1);
        x.melt(1);
        due.is("16 can be", x.count(9), 6);
        due.is("16 MELTED", x.undo(), 5);
        due.are("16 is there again", what -> x.bell(1, what), 2, 1, -4, -4, 5, 0);
        due.is("16 not in store", x.count(2), 27);
        due.is("16 TAKEN DOWN", x.undo(), 4);
        due.are("16 hangs again", what -> x.bell(1, what), 2, 1, 30, 10, 5, 0);
        due.is("16 HUNG", x.undo(), 3);
        due.are("16 where it hung", what -> x.bell(1, what), 2, 1, 8, 9, 5, 0);
        due.is("16 HUNG", x.undo(), 2);
        due.is("16 does not hang", x.wrong(1, 5), 1);
        due.is("16 CAST", x.undo(), 1);
        due.are("16 in store", x::count, 2, 3, 29, 24, 0, 0, 1);
        due.is("16 all DAYS at one time", x.undo(), 0);
        due.are("16 as at first", x::count, 2, 0, 20, 20, 1, 1, 0, 1, 0, 0);
        due.are("16 nothing HEARD", what -> x.wrong(0, what), 0, 5, 1, 0, 0, 2);
        due.are("16 its BELL", what -> x.bell(0, what), 9, 4, 5, 7, 22, 0);
        due.is("16 nothing left", x.undo(), ApologyBells.NO);
    }

    private static void undoingAtMostEight() {
        ApologyBells x = new ApologyBells();
        for (int i = 1; i <= 19; i++) {
            x.pass(i % 3 + 1);
            due.is("16 can be", x.count(9), Math.min(i, 8));
        }
        int[] days = new int[20];
        for (int i = 1; i <= 19; i++) {
            days[i] = days[i - 1] + i % 3 + 1;
        }
        for (int i = 18; i >= 11; i--) {
            due.is("16 undo", x.undo(), i - 11);
            due.is("16 DAY", x.count(1), days[i]);
        }
        due.is("16 no more than 8", x.undo(), ApologyBells.NO);
        due.is("16 DAY", x.count(1), days[11]);
        x.pass(1);
        due.is("16 again", x.undo(), 0);
    }

    private static void refusedActsAreNotUndone() {
        ApologyBells x = new ApologyBells();
        x.note(1, 1);
        x.cast(0, 1, 0);
        x.hang(3, 1, 1);
        x.takeDown(3);
        x.melt(3);
        x.pass(0);
        due.is("16 nothing was done", x.undo(), ApologyBells.NO);
        x.pass(1);
        x.undo();
        due.is("16 what is NOTED stays", x.count(8), 1);
    }
}
