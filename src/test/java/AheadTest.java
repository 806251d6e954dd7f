/** Promises 17 to 22: forgives, by, cheap, best, hours, hush. */
final class AheadTest {
    private static final Due due = new Due();

    public static void main(String[] args) {
        forgiving();
        forgivenBy();
        cheapest();
        cheapestAmongOthers();
        bestHung();
        bestOfNone();
        fewestHours();
        firstWayOfHours();
        hushing();
        due.end();
    }

    private static void forgiving() {
        ApologyBells x = Due.laid("w0,5,20;w2,30,20;w0,5,1;w0,39,1;w0,6,1;b0,9,4,5,7;b1,3,0,30,7;b2,3,0,5,7;b4,3,0,6,8;");
        due.is("17 each DAY", x.forgives(0), 20);
        due.is("17 on even DAYS", x.forgives(1), 39);
        due.is("17 when it is COVERED no more", x.forgives(2), 21);
        due.is("17 none", x.forgives(3), ApologyBells.NONE);
        due.is("17 w below", x.forgives(-1), ApologyBells.BAD);
        due.is("17 w above", x.forgives(5), ApologyBells.BAD);
        x.pass(1);
        due.is("17 one that is FORGIVEN", x.forgives(4), 0);
        due.is("17 from now on", x.forgives(0), 19);
        due.is("17 from now on", x.forgives(1), 38);
        due.is("17 nothing changes", x.count(1), 1);
        // 0 covers 1 for 20 DAYS, 1 is FORGIVEN behind 40 then, 2 behind 60; 3 would be behind 61.
        ApologyBells y = Due.laid("w0,5,20;w0,5,20;w0,5,20;w0,5,1;b0,9,0,5,7;b1,8,0,5,7;b2,7,0,5,7;b3,6,0,5,7;");
        due.is("17 60 DAYS", y.forgives(2), 60);
        due.is("17 61 are too many", y.forgives(3), ApologyBells.NONE);
        due.is("18 60 DAYS", y.by(60), 7);
        due.is("18 59 DAYS", y.by(59), 3);
    }

    private static void forgivenBy() {
        ApologyBells x = Due.laid("w0,5,2;w2,30,2;w0,5,1;b0,9,4,5,7;b1,3,0,30,7;b2,3,0,5,7;");
        int[] want = {0, 0, 1, 7, 7};
        for (int n = 0; n < want.length; n++) {
            due.is("18 by " + n, x.by(n), want[n]);
        }
        due.is("18 below", x.by(-1), ApologyBells.BAD);
        due.is("18 above", x.by(61), ApologyBells.BAD);
        due.is("18 nothing changes", x.count(1), 0);
        x.pass(2);
        due.is("18 what is FORGIVEN already", x.by(0), 1);
    }

    private static void cheapest() {
        ApologyBells x = Due.laid("w0,0,1;w1,0,1;w2,0,1;w3,0,1;m0,0;");
        due.is("19 PLAIN", x.cheap(0, 0, 0), 100);
        due.is("19 whatever is in store", x.cheap(0, 40, 0), 2100);
        due.is("19 DEAF", x.cheap(1, 0, 0), 400);
        due.is("19 DEAF, far", x.cheap(1, 1, 0), 500);
        due.is("19 GRAVE", x.cheap(2, 3, 0), 200);
        due.is("19 PROUD", x.cheap(3, 40, 23), 2100);
        due.is("19 w below", x.cheap(-1, 0, 0), ApologyBells.BAD);
        due.is("19 w above", x.cheap(4, 0, 0), ApologyBells.BAD);
        due.is("19 place below", x.cheap(0, -1, 0), ApologyBells.BAD);
        due.is("19 place above", x.cheap(0, 41, 0), ApologyBells.BAD);
        due.is("19 hour below", x.cheap(0, 0, -1), ApologyBells.BAD);
        due.is("19 hour above", x.cheap(0, 0, 24), ApologyBells.BAD);
        due.are("19 nothing changes", x::count, 4, 0, 0, 0, 0, 0);
    }

    private static void cheapestAmongOthers() {
        ApologyBells x = Due.laid("w0,0,1;w2,0,9;w3,0,1;w0,0,1;b0,30,5,0,7;b1,1,1,0,8;");
        due.is("19 in place of its own", x.cheap(0, 0, 7), 100);
        due.is("19 must be louder", x.cheap(1, 0, 7), 3006);
        due.is("19 with TIN at last", x.cheap(1, 24, 7), 3030);
        due.is("19 none can be", x.cheap(1, 25, 7), ApologyBells.NONE);
        due.is("19 none without TIN", x.cheap(2, 0, 7), ApologyBells.NONE);
        due.is("19 another HOUR", x.cheap(2, 0, 8), 200);
        x.pass(1);
        due.is("19 on an even DAY, though it is odd", x.cheap(1, 0, 0), 100);
        due.is("19 FORGIVEN", x.cheap(0, 0, 7), ApologyBells.NO);
        due.is("19 BAD ahead of NO", x.cheap(0, 41, 7), ApologyBells.BAD);
    }

    private static void bestHung() {
        // 3 LOUD for one at 10: others live at 8, 12, 12 and 9; at 11 and above 8 and 9 are too far.
        ApologyBells x = Due.laid("w0,10,9;w0,8,9;w0,12,9;w0,12,9;w0,9,9;b0,1,1,0,0;");
        due.are("20 best", what -> x.best(0, what), 8, 0, 2, ApologyBells.BAD);
        due.is("20 what below", x.best(0, -1), ApologyBells.BAD);
        due.is("20 w below", x.best(-1, 0), ApologyBells.BAD);
        due.is("20 w above", x.best(5, 0), ApologyBells.BAD);
        due.is("20 no BELL", x.best(1, 0), ApologyBells.NO);
        due.is("20 BAD ahead of NO", x.best(1, 3), ApologyBells.BAD);
        x.cast(4, 9, 0);
        x.hang(4, 9, 0);
        due.are("20 not COVERED", what -> x.best(0, what), 8, 1, 2);
        x.takeDown(0);
        due.are("20 one that does not hang", what -> x.best(0, what), 8, 1, 2);
        x.hang(4, 9, 1);
        due.are("20 the first HOUR", what -> x.best(0, what), 8, 0, 2);
        // Of a FORGIVEN one nobody is left to be disturbed.
        ApologyBells y = Due.laid("w0,10,9;w0,12,9;w0,8,1;b0,1,1,0,0;b2,9,0,8,5;");
        due.are("20 one above, one below", what -> y.best(0, what), 8, 0, 1);
        y.pass(1);
        due.is("20 FORGIVEN", y.wrong(2, 4), 1);
        due.are("20 FORGIVEN ones do not count", what -> y.best(0, what), 8, 0, 0);
        // Others at the very place count, and the one it is for does not.
        ApologyBells z = Due.laid("w2,10,9;w0,10,9;b0,1,0,10,0;");
        z.pass(1);
        due.are("20 a GRAVE one on an odd DAY", what -> z.best(0, what), 9, 0, 1);
    }

    private static void bestOfNone() {
        ApologyBells x = Due.laid("w1,10,9;w3,10,9;w0,3,9;b0,3,1,10,0;b1,3,1,10,0;");
        due.are("20 too low for a DEAF one", what -> x.best(0, what), -4, -4, -4, -1);
        due.are("20 TIN for a PROUD one", what -> x.best(1, what), -4, -4, -4, -1);
    }

    private static void fewestHours() {
        ApologyBells x = Due.laid("w0,0,9;w0,20,9;w0,40,9;w0,1,9;");
        due.is("21 nothing hangs", x.hours(-1), 0);
        due.is("21 does not hang", x.hours(0), ApologyBells.NONE);
        due.is("21 w below", x.hours(-2), ApologyBells.BAD);
        due.is("21 w above", x.hours(4), ApologyBells.BAD);
        ApologyBells y = Due.laid("w0,0,9;w0,20,9;w0,40,9;w0,1,9;b0,3,0,0,5;b1,3,0,20,6;b3,3,0,7,6;");
        due.is("21 how many", y.hours(-1), 2);
        due.are("21 which", y::hours, 0, 0, -4, 1, -1);
        // It clashes if it is as LOUD, by one of the two alone as well, and not if it is 0 LOUD.
        due.is("21 as LOUD", Due.laid("w0,10,9;w0,12,9;b0,1,0,10,0;b1,2,0,12,1;").hours(-1), 2);
        due.is("21 less LOUD", Due.laid("w0,10,9;w0,12,9;b0,1,1,10,0;b1,1,1,12,1;").hours(-1), 1);
        due.is("21 both 0 LOUD", Due.laid("w0,10,9;w0,12,9;b0,1,0,40,0;b1,1,0,40,0;").hours(-1), 1);
        due.is("21 the other is 0 LOUD", Due.laid("w0,10,9;w0,12,9;b0,1,0,40,0;b1,1,1,12,1;").hours(-1), 2);
        due.is("21 all clash", Due.laid("w0,1,9;w1,1,9;w2,1,9;w3,1,9;w0,1,9;w0,1,9;w0,1,9;b0,1,0,1,0;b1,1,0,1,0;b2,1,0,1,0;"
            + "b3,1,0,1,0;b4,1,0,1,0;b5,1,0,1,0;b6,1,0,1,0;").hours(-1), 7);
    }

    private static void firstWayOfHours() {
        // By place they stand 0, 2, 3, 1, each clashing with the next alone; hour by hour as told 3 would need a third.
        ApologyBells x = Due.laid("w0,0,9;w0,12,9;w0,4,9;w0,8,9;w0,30,9;b0,1,1,2,0;b1,1,1,14,0;b2,1,1,6,0;b3,1,1,10,0;b4,1,1,30,0;");
        due.is("21 how many", x.hours(-1), 2);
        due.are("21 the first way", x::hours, 0, 1, 1, 0, 0);
        x.melt(0);
        due.is("21 how many", x.hours(-1), 2);
        due.are("21 the lowest that hangs is in 0", x::hours, -4, 0, 0, 1, 0);
    }

    private static void hushing() {
        ApologyBells x = Due.laid("w0,10,5;w0,10,5;w2,10,5;w3,10,5;w1,10,5;w0,30,5;w0,0,1;"
            + "b0,5,0,10,6;b1,5,0,10,6;b2,5,0,10,7;b3,5,1,10,6;b4,3,0,10,6;b5,1,0,0,6;");
        due.is("22 all that cover it", x.hush(0), 2 | 8);
        due.is("22 all that cover it", x.hush(1), 1 | 8);
        due.is("22 it is HEARD", x.hush(2), 0);
        due.is("22 TIN for a PROUD one", x.hush(3), ApologyBells.NONE);
        due.is("22 too low for a DEAF one", x.hush(4), ApologyBells.NONE);
        due.is("22 too far", x.hush(5), ApologyBells.NONE);
        due.is("22 no BELL", x.hush(6), ApologyBells.NO);
        due.is("22 w below", x.hush(-1), ApologyBells.BAD);
        due.is("22 w above", x.hush(7), ApologyBells.BAD);
        x.pass(1);
        due.is("22 on an even DAY, though it is odd", x.hush(2), 0);
        x.hang(0, 10, 7);
        due.is("22 on an even DAY, though it is odd", x.hush(2), 1);
        x.takeDown(2);
        due.is("22 does not hang", x.hush(2), ApologyBells.NO);
    }
}
