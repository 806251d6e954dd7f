/** Promises 6 to 10: wrong, bell, loud, covered, heard. */
final class StreetTest {
    private static final Due due = new Due();

    public static void main(String[] args) {
        ofAWrong();
        ofABell();
        howLoud();
        whoCovers();
        whoHears();
        due.end();
    }

    private static void ofAWrong() {
        ApologyBells x = Due.laid("w0,5,3;w1,12,2;b0,4,2,9,8;");
        due.are("6 wrong", what -> x.wrong(0, what), 0, 5, 3, 0, 0, 2, ApologyBells.BAD);
        due.are("6 wrong", what -> x.wrong(1, what), 1, 12, 2, 0, 0, 0, ApologyBells.BAD);
        due.is("6 what below", x.wrong(0, -1), ApologyBells.BAD);
        due.is("6 w below", x.wrong(-1, 0), ApologyBells.BAD);
        due.is("6 w above", x.wrong(2, 0), ApologyBells.BAD);
        due.is("6 w far above", x.wrong(Integer.MAX_VALUE, 0), ApologyBells.BAD);
        x.takeDown(0);
        due.is("6 does not hang", x.wrong(0, 5), 1);
        x.hang(0, 5, 0);
        x.pass(2);
        due.are("6 HEARD twice", what -> x.wrong(0, what), 0, 5, 3, 2, 0, 2);
        x.pass(1);
        due.are("6 FORGIVEN", what -> x.wrong(0, what), 0, 5, 3, 3, 1, 0);
    }

    private static void ofABell() {
        ApologyBells x = Due.laid("w0,5,3;w1,12,2;b0,4,5,9,8;m30,30;");
        due.are("7 bell", what -> x.bell(0, what), 4, 5, 9, 8, 6, 1, ApologyBells.BAD);
        due.are("7 there is none", what -> x.bell(1, what), -4, -4, -4, -4, -4, -4, ApologyBells.BAD);
        due.is("7 what below", x.bell(0, -1), ApologyBells.BAD);
        due.is("7 w below", x.bell(-1, 0), ApologyBells.BAD);
        due.is("7 w above", x.bell(2, 0), ApologyBells.BAD);
        x.takeDown(0);
        due.are("7 does not hang", what -> x.bell(0, what), 4, 5, -4, -4, 6, 1);
        x.cast(1, 7, 7);
        due.are("7 as much TIN is no crack", what -> x.bell(1, what), 7, 7, -4, -4, 21, 0);
    }

    private static void howLoud() {
        ApologyBells x = Due.laid("w0,5,3;w1,12,2;w0,0,1;b0,4,2,9,8;m30,30;");
        due.is("8 there", x.loud(0, 9), 10);
        due.is("8 below there", x.loud(0, 5), 6);
        due.is("8 above there", x.loud(0, 18), 1);
        due.is("8 too far", x.loud(0, 19), 0);
        due.is("8 farther", x.loud(0, 40), 0);
        due.is("8 place below", x.loud(0, -1), ApologyBells.BAD);
        due.is("8 place above", x.loud(0, 41), ApologyBells.BAD);
        due.is("8 w below", x.loud(-1, 0), ApologyBells.BAD);
        due.is("8 w above", x.loud(3, 0), ApologyBells.BAD);
        due.is("8 no BELL", x.loud(1, 0), ApologyBells.NO);
        due.is("8 BAD ahead of NO", x.loud(1, 41), ApologyBells.BAD);
        x.cast(1, 1, 0);
        due.is("8 does not hang", x.loud(1, 0), ApologyBells.NO);
    }

    private static void whoCovers() {
        ApologyBells x = Due.laid("w0,10,5;w0,10,5;w0,10,5;w0,10,5;w0,10,5;w0,30,5;"
            + "b0,5,0,10,6;b1,5,0,10,6;b2,5,0,10,7;b3,6,0,10,6;b4,5,0,11,6;b5,1,0,0,6;");
        due.is("9 as LOUD, louder", x.covered(0), 2 | 8);
        due.is("9 not by itself", x.covered(1), 1 | 8);
        due.is("9 another HOUR", x.covered(2), 0);
        due.is("9 the loudest", x.covered(3), 0);
        due.is("9 by all", x.covered(4), 1 | 2 | 8);
        due.is("9 by none that is not 1 LOUD", x.covered(5), 0);
        due.is("9 w below", x.covered(-1), ApologyBells.BAD);
        due.is("9 w above", x.covered(6), ApologyBells.BAD);
        x.hang(0, 21, 6);
        due.is("9 one that is 0 LOUD itself", x.covered(5), 1);
        x.hang(0, 20, 6);
        due.is("9 0 LOUD covers none", x.covered(5), 0);
        x.takeDown(0);
        due.is("9 does not hang", x.covered(0), ApologyBells.NO);
        due.is("9 what does not hang covers none", x.covered(1), 8);
        x.melt(0);
        due.is("9 no BELL", x.covered(0), ApologyBells.NO);
    }

    private static int heardAt(int kind, int copper, int tin, int place, int days) {
        ApologyBells x = Due.laid("w" + kind + ",20,20;b0," + copper + "," + tin + "," + place + ",0;");
        if (days > 0) {
            x.pass(days);
        }
        return x.heard(0);
    }

    private static void whoHears() {
        due.is("10 PLAIN at 1", heardAt(0, 2, 1, 24, 0), 1);
        due.is("10 PLAIN at 0", heardAt(0, 2, 1, 25, 0), 0);
        due.is("10 PLAIN on an odd DAY", heardAt(0, 2, 1, 24, 1), 1);
        due.is("10 DEAF at 8", heardAt(1, 4, 1, 21, 0), 1);
        due.is("10 DEAF at 7", heardAt(1, 4, 1, 22, 0), 0);
        due.is("10 GRAVE on DAY 0", heardAt(2, 2, 1, 16, 0), 1);
        due.is("10 GRAVE at 0", heardAt(2, 2, 1, 15, 0), 0);
        due.is("10 GRAVE on DAY 1", heardAt(2, 2, 1, 16, 1), 0);
        due.is("10 GRAVE on DAY 2", heardAt(2, 2, 1, 16, 2), 1);
        due.is("10 PROUD without TIN at 1", heardAt(3, 2, 0, 23, 0), 1);
        due.is("10 PROUD at 0", heardAt(3, 2, 0, 24, 0), 0);
        due.is("10 PROUD with TIN", heardAt(3, 2, 1, 20, 0), 0);
        due.is("10 a cracked one", heardAt(0, 1, 2, 21, 0), 1);
        due.is("10 a cracked one is half as LOUD", heardAt(0, 1, 2, 22, 0), 0);
        ApologyBells x = Due.laid("w0,10,5;w0,12,5;w0,30,5;b0,5,0,10,6;b1,3,0,12,6;");
        due.is("10 covers", x.heard(0), 1);
        due.is("10 is covered", x.heard(1), 0);
        due.is("10 no BELL", x.heard(2), ApologyBells.NO);
        due.is("10 w below", x.heard(-1), ApologyBells.BAD);
        due.is("10 w above", x.heard(3), ApologyBells.BAD);
        x.takeDown(0);
        due.is("10 does not hang", x.heard(0), ApologyBells.NO);
        due.is("10 covered no more", x.heard(1), 1);
    }
}
