/** Promises 1 to 5: a new object, write, wipe, fault, lay. */
final class TextTest {
    private static final Due due = new Due();

    public static void main(String[] args) {
        newObject();
        writeAndWipe();
        faults();
        lays();
        laysAnew();
        refusedLayChangesNothing();
        due.end();
    }

    private static void newObject() {
        ApologyBells x = new ApologyBells();
        due.are("1 count", x::count, 6, 0, 25, 12, 4, 4, 0, 3, 0, 0, 0, 0, ApologyBells.BAD);
        int[][] wrongs = {{0, 5, 3, 0, 0, 2}, {1, 12, 2, 0, 0, 2}, {2, 20, 4, 0, 0, 2},
            {3, 8, 2, 0, 0, 0}, {0, 30, 6, 0, 0, 0}, {0, 14, 1, 0, 0, 2}};
        for (int w = 0; w < wrongs.length; w++) {
            int one = w;
            due.are("1 wrong " + w, what -> x.wrong(one, what), wrongs[w]);
        }
        due.are("1 bell 0", what -> x.bell(0, what), 4, 2, 9, 8, 10, 0);
        due.are("1 bell 1", what -> x.bell(1, what), 9, 1, 12, 12, 19, 0);
        due.are("1 bell 2", what -> x.bell(2, what), 6, 3, 25, 8, 15, 0);
        due.are("1 bell 5", what -> x.bell(5, what), 2, 5, 14, 12, 4, 1);
        due.is("1 undo", x.undo(), ApologyBells.NO);
        due.is("1 back", x.back(), ApologyBells.NO);
        due.is("1 forget", x.forget(), 0);
        due.is("1 wipe", x.wipe(), 0);
    }

    private static void writeAndWipe() {
        ApologyBells x = new ApologyBells();
        due.is("2 below the letters", x.write(31), ApologyBells.BAD);
        due.is("2 above the letters", x.write(127), ApologyBells.BAD);
        due.is("2 far below", x.write(Integer.MIN_VALUE), ApologyBells.BAD);
        due.is("2 first letter there is", x.write(32), 1);
        due.is("2 last letter there is", x.write(126), 2);
        for (int i = 3; i <= 200; i++) {
            due.is("2 letter " + i, x.write('w'), i);
        }
        due.is("2 one too many", x.write('w'), ApologyBells.FULL);
        due.is("2 BAD goes ahead of FULL", x.write(127), ApologyBells.BAD);
        due.is("2 it stays", x.count(11), 200);
        due.is("3 wipe", x.wipe(), 200);
        due.is("3 wiped", x.count(11), 0);
        due.is("3 wipe again", x.wipe(), 0);
        due.is("2 behind a wipe", x.write('w'), 1);
    }

    private static void fault(String text, int want) {
        due.is("4 fault of " + text, Due.written(text).fault(), want);
    }

    private static void faults() {
        int none = ApologyBells.NONE;
        fault("", none);
        fault("w0,5,3;", none);
        fault("w3,40,20;", none);
        fault("w0,0,1;", none);
        fault("w00,05,03;", none);
        fault("m0,0;", none);
        fault("m99,99;m1,1;", none);
        fault("w0,0,1;b0,1,0,0,0;", none);
        fault("w0,0,1;b0,30,30,40,23;", none);
        fault("w0,0,1;m5,5;w1,0,1;b1,1,0,0,0;b0,1,0,0,0;m7,7;", none);
        String[] first = {"w0,5,3", "w0,5,", "w", "w;", "w4,5,3;", "w0,41,3;", "w0,0,0;", "w0,0,21;", "w000,5,3;",
            "w0,005,3;", "w0,5,003;", "w0,5;", "w0,5,3,;", "w0,5,3,1;", "w,5,3;", "w0,,3;", "w0, 5,3;", "w0;5;3;", "W0,5,3;",
            "x0,5,3;", ";", " w0,5,3;", "0", "m100,0;", "m0,100;", "m9;", "m1,2,3;", "m-1,0;", "m1,2", "b0,1,0,0,0;", "w+1,5,3;"};
        for (String text : first) {
            fault(text, 0);
            fault("w0,0,1;" + text, text.equals("b0,1,0,0,0;") ? none : 7);
        }
        fault("w0,0,1;b1,1,0,0,0;", 7);
        fault("w0,0,1;b0,0,0,0,0;", 7);
        fault("w0,0,1;b0,31,0,0,0;", 7);
        fault("w0,0,1;b0,1,31,0,0;", 7);
        fault("w0,0,1;b0,1,0,41,0;", 7);
        fault("w0,0,1;b0,1,0,0,24;", 7);
        fault("w0,0,1;b0,1,0,0;", 7);
        fault("w0,0,1;b0,1,0,0,0;b0,1,0,0,0;", 18);
        fault("b0,1,0,0,0;w0,0,1;", 0);
        fault("w0,0,1;w0,5", 7);
        String seven = "w0,0,1;w0,0,1;w0,0,1;w0,0,1;w0,0,1;w0,0,1;w0,0,1;";
        fault(seven, none);
        fault(seven + "w0,0,1;", 49);
        fault(seven + "b6,1,0,0,0;w0,0,1;", 60);
        fault(seven + "b7,1,0,0,0;", 49);
        ApologyBells x = Due.written("w0,5");
        due.is("4 not whole yet", x.fault(), 0);
        Due.write(x, ",3;");
        due.is("4 whole", x.fault(), none);
        due.is("4 nothing changes by it", x.count(0), 6);
        due.is("4 the text stays", x.count(11), 7);
    }

    private static void lays() {
        ApologyBells x = Due.written("w2,7,9;");
        due.is("5 lay", x.lay(), 1);
        due.are("5 count", x::count, 1, 0, 20, 10, 0, 0, 0, 0, 0, 0, 0, 7);
        due.are("5 wrong", what -> x.wrong(0, what), 2, 7, 9, 0, 0, 0);
        due.is("5 only such as there are", x.wrong(1, 0), ApologyBells.BAD);
        ApologyBells y = Due.laid("w0,0,1;m3,4;w3,40,20;b1,8,9,39,23;m0,99;");
        due.are("5 count", y::count, 2, 0, 0, 99, 1, 1, 0, 0);
        due.are("5 bell", what -> y.bell(1, what), 8, 9, 39, 23, 12, 1);
        due.is("5 seven", Due.written("w0,0,1;w0,0,1;w0,0,1;w0,0,1;w0,0,1;w0,0,1;w0,0,1;").lay(), 7);
    }

    private static void laysAnew() {
        ApologyBells x = new ApologyBells();
        x.pass(3);
        x.note(3, 3);
        x.keep();
        Due.write(x, "w0,5,3;b0,1,0,5,0;w1,5,3;");
        due.is("5 lay", x.lay(), 2);
        due.are("5 all anew", x::count, 2, 0, 20, 10, 1, 1, 0, 1, 0, 0, 0, 25);
        due.is("5 nothing UNDONE", x.undo(), ApologyBells.NO);
        due.is("5 nothing KEPT", x.back(), ApologyBells.NO);
        due.is("5 nothing NOTED", x.forget(), 0);
        due.are("5 nothing HEARD", what -> x.wrong(0, what), 0, 5, 3, 0, 0, 2);
        x.pass(5);
        due.is("5 FORGIVEN", x.wrong(0, 4), 1);
        due.is("5 the same again", x.lay(), 2);
        due.are("5 nothing FORGIVEN", what -> x.wrong(0, what), 0, 5, 3, 0, 0, 2);
        due.are("5 without a BELL", what -> x.wrong(1, what), 1, 5, 3, 0, 0, 0);
    }

    private static void refusedLayChangesNothing() {
        for (String text : new String[] {"", "m1,1;", "w0,5,3;m1,1;x", "b0,1,0,0,0;"}) {
            ApologyBells x = new ApologyBells();
            x.pass(1);
            x.note(3, 3);
            x.keep();
            Due.write(x, text);
            due.is("5 lay of " + text, x.lay(), ApologyBells.NO);
            due.are("5 as it was", x::count, 6, 1, 25, 12, 4, 4, 0, 2, 1, 1, 1, text.length());
        }
    }
}
