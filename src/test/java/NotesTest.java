/** Promises 23 to 26: note, forget, which, casts. */
final class NotesTest {
    private static final Due due = new Due();

    public static void main(String[] args) {
        noting();
        whichOnes();
        howCast();
        due.end();
    }

    private static void noting() {
        ApologyBells x = new ApologyBells();
        due.is("23 place below", x.note(-1, 0), ApologyBells.BAD);
        due.is("23 place above", x.note(41, 0), ApologyBells.BAD);
        due.is("23 LOUD below", x.note(0, -1), ApologyBells.BAD);
        due.is("23 LOUD above", x.note(0, 100), ApologyBells.BAD);
        due.is("23 nothing yet", x.count(8), 0);
        for (int i = 1; i <= 6; i++) {
            due.is("23 note " + i, x.note(40, 99), i);
        }
        due.is("23 one too many", x.note(0, 0), ApologyBells.FULL);
        due.is("23 BAD ahead of FULL", x.note(0, 100), ApologyBells.BAD);
        due.is("23 it stays", x.count(8), 6);
        due.is("24 forget", x.forget(), 6);
        due.is("24 forgotten", x.count(8), 0);
        due.is("24 forget again", x.forget(), 0);
        due.is("23 behind it", x.note(0, 0), 1);
    }

    private static void whichOnes() {
        ApologyBells x = Due.laid("w0,0,9;w0,0,9;w0,0,9;w0,0,9;b0,5,0,10,0;b1,5,0,20,1;b2,4,1,11,0;m20,20;");
        due.is("25 nothing NOTED", x.which(), 7);
        x.note(15, 5);
        due.is("25 two of them, as LOUD there", x.which(), 7);
        x.note(16, 4);
        due.is("25 not the one above", x.which(), 5);
        x.note(10, 8);
        due.is("25 the one", x.which(), 4);
        x.note(40, 0);
        due.is("25 too far", x.which(), 4);
        x.takeDown(2);
        due.is("25 does not hang", x.which(), 0);
        x.hang(0, 13, 0);
        due.is("25 not as NOTED", x.which(), 0);
        x.forget();
        due.is("25 forgotten", x.which(), 3);
        x.note(0, 0);
        x.note(0, 1);
        due.is("25 not both", x.which(), 0);
    }

    private static void howCast() {
        ApologyBells x = new ApologyBells();
        due.are("26 casts of 2", what -> x.casts(2, what), 3, 100, ApologyBells.BAD);
        due.are("26 casts of 3", what -> x.casts(3, what), 4, 101);
        due.are("26 casts of 90", what -> x.casts(90, what), 1, 3030);
        due.are("26 casts of 91", what -> x.casts(91, what), 0, ApologyBells.NONE);
        due.are("26 casts of 99", what -> x.casts(99, what), 0, ApologyBells.NONE);
        due.are("26 casts of 0", what -> x.casts(0, what), 0, ApologyBells.NONE);
        due.is("26 LOUD below", x.casts(-1, 0), ApologyBells.BAD);
        due.is("26 LOUD above", x.casts(100, 0), ApologyBells.BAD);
        due.is("26 what below", x.casts(0, -1), ApologyBells.BAD);
        int all = 0;
        for (int l = 0; l <= 99; l++) {
            all += x.casts(l, 0);
        }
        due.is("26 each is some LOUD", all, 30 * 31);
    }
}
