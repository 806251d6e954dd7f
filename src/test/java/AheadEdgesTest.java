/** The edges that the document names for forgives, by, cheap, best, hours and hush (promises 17 to 22). */
final class AheadEdgesTest extends Edges {
    /** Each covers the next until it is FORGIVEN: behind 20, 40, 60 and 61 DAYS. */
    private static final String CHAIN = "w0,5,20;w0,5,20;w0,5,20;w0,5,1;b0,9,0,5,7;b1,8,0,5,7;b2,7,0,5,7;b3,6,0,5,7;";
    private static final String SIX_AT_20 = "w0,20,9;".repeat(6);
    private static final String SIX_RING = "b0,9,0,20,0;b1,9,0,20,1;b2,9,0,20,2;b3,9,0,20,3;b4,9,0,20,4;b5,9,0,20,5;";

    public static void main(String[] args) {
        forgivesOfAWrong();
        forgivesWithinSixty();
        forgivesFirst();
        byDays();
        byThen();
        cheapNumbers();
        cheapIfNotForgiven();
        cheapMetal();
        cheapWhateverIsInStore();
        cheapInPlaceOfItsOwn();
        cheapOnAnEvenDay();
        cheapByHowTheOthersHang();
        cheapWithLeastTin();
        cheapNone();
        bestNumbers();
        bestWithoutABell();
        bestNone();
        bestOnAnEvenDay();
        bestByFewestOthers();
        bestByOthersNotForgiven();
        bestByThePlace();
        bestByTheHour();
        hoursNumbers();
        hoursOfNothing();
        hoursOfThoseThatHang();
        hoursIfTheyRangInOne();
        hoursIfNoLessLoud();
        hoursFewest();
        hoursFirstWay();
        hushNumbers();
        hushOnlyIfItHangs();
        hushFewest();
        hushNone();
        hushOnAnEvenDay();
        end();
    }

    private static void forgivesOfAWrong() {
        sentence(17, "FORGIVES. NONE; BAD");
        ApologyBells x = Due.laid("w0,5,1;w0,5,1;");
        onlyWithin("forgives", 0, 1, x::forgives);
        is("no BELL", x.forgives(0), NONE);
        x.cast(0, 9, 0);
        is("one that does not hang", x.forgives(0), NONE);
        x.hang(0, 5, 0);
        is("one that hangs", x.forgives(0), 1);
    }

    private static void forgivesWithinSixty() {
        sentence(17, "FORGIVES of a WRONG: behind how many DAYS (0 to 60) it is FORGIVEN first; none");
        ApologyBells x = Due.laid(CHAIN);
        are("from DAY 0 on", x::forgives, 20, 40, 60, NONE);
        x.pass(1);
        are("from DAY 1 on", x::forgives, 19, 39, 59, 60);
    }

    private static void forgivesFirst() {
        sentence(17, "it is FORGIVEN first");
        ApologyBells x = Due.laid("w0,5,1;w2,30,1;b0,9,0,5,7;b1,9,0,30,7;");
        are("the next DAY", x::forgives, 1, 1);
        x.pass(1);
        are("FORGIVEN already", x::forgives, 0, 0);
        x.pass(9);
        are("long since", x::forgives, 0, 0);
        x.undo();
        x.undo();
        x.takeDown(1);
        x.pass(1);
        x.hang(1, 30, 7);
        is("not on the odd DAY", x.forgives(1), 2);
    }

    private static void byDays() {
        sentence(18, "BY n (0 to 60) DAYS: WRONGS (bits) that are FORGIVEN then");
        ApologyBells x = Due.laid(CHAIN);
        onlyWithin("by", 0, 60, x::by);
        int[] days = {0, 19, 20, 39, 40, 59, 60};
        int[] bits = {0, 0, 1, 1, 3, 3, 7};
        for (int i = 0; i < days.length; i++) {
            is("by " + days[i], x.by(days[i]), bits[i]);
        }
    }

    private static void byThen() {
        sentence(18, "that are FORGIVEN then");
        ApologyBells x = Due.laid("w0,0,1;w0,5,1;w0,10,1;w0,15,1;w0,20,1;w0,25,1;w0,30,1;"
            + "b0,1,0,0,0;b1,1,0,5,1;b2,1,0,10,2;b3,1,0,15,3;b4,1,0,20,4;b5,1,0,25,5;b6,1,0,30,6;");
        is("none yet", x.by(0), 0);
        is("all seven", x.by(1), 127);
        x.pass(1);
        is("all seven already", x.by(0), 127);
    }

    private static void cheapNumbers() {
        sentence(19, "(WRONGS: such as there are; PLACES 0 to 40, HOURS 0 to 23)");
        ApologyBells x = Due.laid("w0,5,1;w0,5,1;");
        onlyWithin("w", 0, 1, w -> x.cheap(w, 0, 0));
        onlyWithin("PLACE", 0, 40, p -> x.cheap(0, p, 0));
        onlyWithin("HOUR", 0, 23, h -> x.cheap(0, 0, h));
        is("at PLACE 0", x.cheap(0, 0, 0), 300);
        is("at PLACE 40", x.cheap(0, 40, 23), 1800);
    }

    private static void cheapIfNotForgiven() {
        sentence(19, "CHEAP. NONE; BAD; NO: it is FORGIVEN");
        ApologyBells x = Due.laid("w0,5,1;w0,5,9;b0,9,0,5,0;b1,30,30,5,1;");
        is("not yet", x.cheap(0, 5, 0), 100);
        x.pass(1);
        is("FORGIVEN", x.cheap(0, 5, 0), NO);
        is("NO ahead of NONE", x.cheap(0, 5, 1), NO);
        is("BAD ahead of NO", x.cheap(0, 41, 0), BAD);
        is("BAD ahead of NO", x.cheap(0, 0, 24), BAD);
    }

    /** What has to be cast for a WRONG at 20 against a bell of c and t that hangs there. */
    private static int cheapAgainst(int kind, int c, int t) {
        return Due.laid("w" + kind + ",20,1;w0,40,1;b1," + c + "," + t + ",20,0;").cheap(0, 20, 0);
    }

    private static void cheapMetal() {
        sentence(19, "the BELL (C 1 to 30, T 0 to 30");
        is("the least there is", Due.laid("w0,20,1;").cheap(0, 20, 0), 100);
        is("louder than 58", cheapAgainst(0, 29, 0), 3000);
        is("louder than 59", cheapAgainst(0, 29, 1), 3000);
        is("louder than 60", cheapAgainst(0, 30, 0), 3001);
        is("louder than 88", cheapAgainst(0, 30, 28), 3029);
        is("louder than 89", cheapAgainst(0, 30, 29), 3030);
        is("louder than 90", cheapAgainst(0, 30, 30), NONE);
        is("a PROUD one, louder than 59", cheapAgainst(3, 29, 1), 3000);
        is("a PROUD one, louder than 60", cheapAgainst(3, 30, 0), NONE);
        is("a DEAF one, 8", Due.laid("w1,20,1;").cheap(0, 20, 0), 400);
        is("a DEAF one, louder than 8", cheapAgainst(1, 4, 0), 500);
        is("a DEAF one, far", Due.laid("w1,0,1;").cheap(0, 40, 0), 2400);
    }

    private static void cheapWhateverIsInStore() {
        sentence(19, "whatever is in store");
        is("nothing", Due.laid("w0,0,1;m0,0;").cheap(0, 40, 0), 2100);
        is("too little", Due.laid("w0,0,1;m20,0;").cheap(0, 40, 0), 2100);
        is("plenty", Due.laid("w0,0,1;m99,99;").cheap(0, 40, 0), 2100);
    }

    private static void cheapInPlaceOfItsOwn() {
        sentence(19, "that, hung there, in place of its own");
        ApologyBells x = Due.laid("w0,20,9;b0,30,30,20,0;");
        is("its own does not cover it", x.cheap(0, 20, 0), 100);
        x.takeDown(0);
        is("nor one that does not hang", x.cheap(0, 20, 0), 100);
        x.melt(0);
        is("without one", x.cheap(0, 20, 0), 100);
    }

    private static void cheapOnAnEvenDay() {
        sentence(19, "were HEARD on an even DAY");
        ApologyBells x = Due.laid("w2,20,9;");
        is("on DAY 0", x.cheap(0, 20, 0), 100);
        x.pass(1);
        is("on DAY 1", x.cheap(0, 20, 0), 100);
    }

    private static void cheapByHowTheOthersHang() {
        sentence(19, "by how the others hang");
        ApologyBells x = Due.laid("w0,20,9;w0,40,9;b1,5,0,23,7;");
        is("louder than 7", x.cheap(0, 20, 7), 400);
        is("from farther away", x.cheap(0, 22, 7), 500);
        is("another HOUR", x.cheap(0, 20, 8), 100);
        is("another HOUR", x.cheap(0, 20, 6), 100);
        x.hang(1, 30, 7);
        is("0 LOUD there", x.cheap(0, 20, 7), 100);
        x.hang(1, 29, 7);
        is("1 LOUD there", x.cheap(0, 20, 7), 100);
        is("1 LOUD there, as LOUD", x.cheap(0, 19, 7), 200);
        x.hang(1, 20, 7);
        x.takeDown(1);
        is("it does not hang", x.cheap(0, 20, 7), 100);
    }

    private static void cheapWithLeastTin() {
        sentence(19, "with least C and T in sum, of several that of least T: 100 C and T");
        is("3 LOUD: 2 and 0, not 1 and 1", Due.laid("w0,20,1;").cheap(0, 18, 0), 200);
        is("5 LOUD: 3 and 0, not 2 and 1", Due.laid("w0,20,1;").cheap(0, 24, 0), 300);
        is("62 LOUD: 30 and 2, not 31", cheapAgainst(0, 30, 1), 3002);
    }

    private static void cheapNone() {
        sentence(19, "CHEAP. NONE");
        ApologyBells x = Due.laid("w0,20,1;w0,20,1;b1,30,20,20,0;");
        is("90 less 9 are 81", x.cheap(0, 29, 0), 3030);
        is("90 less 10 are but 80", x.cheap(0, 30, 0), NONE);
        is("another HOUR", x.cheap(0, 30, 1), 600);
    }

    private static void bestNumbers() {
        sentence(20, "BEST: PLACE (what = 0), HOUR (1), how many (2)");
        ApologyBells x = Due.laid("w0,20,9;w0,20,9;b0,2,0,0,0;b1,2,0,0,0;");
        onlyWithin("w", 0, 1, w -> x.best(w, 0));
        onlyWithin("what", 0, 2, what -> x.best(0, what));
        is("both BAD", x.best(2, 3), BAD);
    }

    private static void bestWithoutABell() {
        sentence(20, "NONE; BAD; NO: there is no BELL");
        ApologyBells x = Due.laid("w0,20,9;w0,30,1;b1,2,0,30,0;");
        are("none yet", what -> x.best(0, what), NO, NO, NO, BAD);
        x.cast(0, 2, 0);
        are("one that does not hang", what -> x.best(0, what), 17, 0, 0, BAD);
        x.melt(0);
        are("MELTED", what -> x.best(0, what), NO, NO, NO, BAD);
        x.pass(1);
        are("FORGIVEN, so MELTED", what -> x.best(1, what), NO, NO, NO, BAD);
    }

    private static void bestNone() {
        sentence(20, "PLACE; HOUR; how many; none.");
        are("7 LOUD to a DEAF one", what -> Due.laid("w1,20,9;b0,3,1,0,0;").best(0, what), NONE, NONE, NONE, BAD);
        are("8 LOUD to a DEAF one", what -> Due.laid("w1,20,9;b0,4,0,0,0;").best(0, what), 20, 0, 0, BAD);
        are("TIN to a PROUD one", what -> Due.laid("w3,20,9;b0,9,1,20,0;").best(0, what), NONE, NONE, NONE, BAD);
        are("no TIN to a PROUD one", what -> Due.laid("w3,20,9;b0,1,0,0,0;").best(0, what), 19, 0, 0, BAD);
    }

    private static void bestOnAnEvenDay() {
        sentence(20, "so that it were HEARD on an even DAY");
        ApologyBells x = Due.laid("w2,20,9;b0,2,0,0,0;");
        are("on DAY 0", what -> x.best(0, what), 17, 0, 0);
        x.pass(1);
        are("on DAY 1", what -> x.best(0, what), 17, 0, 0);
    }

    private static void bestByFewestOthers() {
        sentence(20, "at which it would be 1 LOUD or more where fewest others live");
        // 4 LOUD: from 17 to 23 it is heard at 20; at 20 it is 1 LOUD at 17, at 21 it is 0 LOUD there.
        are("0 LOUD there", what -> Due.laid("w0,20,9;w0,17,9;b0,2,0,0,0;").best(0, what), 21, 0, 0);
        are("one is fewer than two", what -> Due.laid("w0,20,9;w0,17,9;w0,17,9;w0,24,9;b0,2,0,0,0;").best(0, what), 21, 0, 1);
        are("one at each end", what -> Due.laid("w0,20,9;w0,17,9;w0,24,9;b0,2,0,0,0;").best(0, what), 17, 0, 1);
        are("its own does not count", what -> Due.laid("w0,20,9;b0,2,0,0,0;").best(0, what), 17, 0, 0);
        are("others at its PLACE do", what -> Due.laid("w0,20,9;w1,20,9;w3,20,9;b0,2,1,0,0;").best(0, what), 16, 0, 2);
    }

    private static void bestByOthersNotForgiven() {
        sentence(20, "to whom a WRONG that is not FORGIVEN was done");
        ApologyBells x = Due.laid("w0,20,9;w0,17,1;b0,2,0,0,0;b1,1,0,17,5;");
        are("not yet", what -> x.best(0, what), 21, 0, 0);
        x.pass(1);
        are("FORGIVEN", what -> x.best(0, what), 17, 0, 0);
        x.undo();
        are("UNDONE", what -> x.best(0, what), 21, 0, 0);
    }

    private static void bestByThePlace() {
        sentence(20, "of several the first (by the PLACE, then the HOUR)");
        are("PLACE 0", what -> Due.laid("w0,2,9;b0,2,0,30,0;").best(0, what), 0, 0, 0);
        are("PLACE 40", what -> Due.laid("w0,40,9;w0,38,9;b0,1,0,0,0;").best(0, what), 40, 0, 0);
        // Another one is 2 LOUD at 20 in HOUR 0: there it would have to hang at 19, in HOUR 1 it may at 17.
        are("by the PLACE ahead of the HOUR", what -> Due.laid("w0,20,9;w0,40,9;b0,2,0,0,0;b1,1,0,20,0;").best(0, what), 17, 1, 0);
    }

    private static void bestByTheHour() {
        sentence(20, "where, when it can be HUNG");
        ApologyBells x = Due.laid(SIX_AT_20 + "w0,20,9;" + SIX_RING + "b6,2,0,0,0;");
        are("all others ring ahead", what -> x.best(6, what), 17, 6, 6);
        x.takeDown(0);
        are("the first HOUR", what -> x.best(6, what), 17, 0, 6);
        x.hang(0, 20, 6);
        are("the first HOUR", what -> x.best(6, what), 17, 0, 6);
        x.hang(1, 20, 0);
        are("the next HOUR", what -> x.best(6, what), 17, 1, 6);
    }

    private static void hoursNumbers() {
        sentence(21, "HOURS: how many (w = -1), which for a BELL (NONE: it does not hang). BAD");
        ApologyBells x = Due.laid("w0,20,9;w0,20,9;b0,2,0,20,0;b1,2,0,20,0;");
        onlyWithin("hours", -1, 1, x::hours);
        is("how many", x.hours(-1), 2);
    }

    private static void hoursOfNothing() {
        sentence(21, "the fewest HOURS in which all that hang can ring");
        ApologyBells x = Due.laid("w0,20,9;");
        is("nothing hangs", x.hours(-1), 0);
        is("no BELL", x.hours(0), NONE);
        x.cast(0, 2, 0);
        is("nothing hangs", x.hours(-1), 0);
        is("CAST", x.hours(0), NONE);
        x.hang(0, 40, 23);
        is("one hangs", x.hours(-1), 1);
        is("HUNG", x.hours(0), 0);
    }

    private static void hoursOfThoseThatHang() {
        sentence(21, "which for a BELL (NONE: it does not hang)");
        ApologyBells x = Due.laid("w0,20,9;w0,20,9;w0,20,9;b0,2,0,20,0;b1,2,0,20,0;b2,2,0,20,0;");
        is("three", x.hours(-1), 3);
        x.takeDown(1);
        is("two", x.hours(-1), 2);
        are("which", x::hours, 0, NONE, 1);
        x.melt(0);
        is("one", x.hours(-1), 1);
        are("which", x::hours, NONE, NONE, 0);
    }

    private static void hoursIfTheyRangInOne() {
        sentence(21, "TWO clash that hang, if one of them, did they ring in one HOUR");
        is("in two", Due.laid("w0,20,9;w0,20,9;b0,2,0,20,0;b1,2,0,20,1;").hours(-1), 2);
        is("in one", Due.laid("w0,20,9;w0,20,9;b0,2,0,20,5;b1,2,0,20,5;").hours(-1), 2);
        is("in one, not clashing", Due.laid("w0,20,9;w0,40,9;b0,2,0,20,5;b1,2,0,40,5;").hours(-1), 1);
    }

    private static void hoursIfNoLessLoud() {
        sentence(21, "would be no less LOUD (1 at least) where whom the other is for lives than the other one");
        is("as LOUD there", Due.laid("w0,10,9;w0,12,9;b0,1,0,10,0;b1,2,0,12,0;").hours(-1), 2);
        is("as LOUD there, the other way", Due.laid("w0,10,9;w0,12,9;b0,2,0,10,0;b1,1,0,12,0;").hours(-1), 2);
        is("less LOUD there", Due.laid("w0,10,9;w0,12,9;b0,1,1,10,0;b1,2,0,12,0;").hours(-1), 1);
        is("0 LOUD both", Due.laid("w0,10,9;w0,12,9;b0,1,0,30,0;b1,1,0,40,0;").hours(-1), 1);
        is("1 LOUD, and 0", Due.laid("w0,10,9;w0,12,9;b0,1,0,30,0;b1,1,0,11,0;").hours(-1), 2);
        is("1 LOUD, and 0, the other way", Due.laid("w0,10,9;w0,12,9;b0,1,0,11,0;b1,1,0,30,0;").hours(-1), 2);
        is("0 LOUD, and 0, though it is 2 at its own", Due.laid("w0,10,9;w0,12,9;b0,1,0,30,0;b1,1,0,12,0;").hours(-1), 1);
    }

    private static void hoursFewest() {
        sentence(21, "so that no TWO that clash ring in one");
        ApologyBells x = Due.laid("w0,20,9;".repeat(7) + "b0,1,0,20,0;b1,1,0,20,0;b2,1,0,20,0;b3,1,0,20,0;b4,1,0,20,0;b5,1,0,20,0;b6,1,0,20,0;");
        is("all clash", x.hours(-1), 7);
        are("as they are first used", x::hours, 0, 1, 2, 3, 4, 5, 6, BAD);
        ApologyBells y = Due.laid("w0,0,9;w0,6,9;w0,12,9;w0,18,9;w0,24,9;w0,30,9;w0,36,9;"
            + "b0,1,0,0,0;b1,1,0,6,0;b2,1,0,12,0;b3,1,0,18,0;b4,1,0,24,0;b5,1,0,30,0;b6,1,0,36,0;");
        is("none clash", y.hours(-1), 1);
        are("all in one", y::hours, 0, 0, 0, 0, 0, 0, 0, BAD);
    }

    private static void hoursFirstWay() {
        sentence(21, "of several ways the first (by that of the lowest, HOURS numbered from 0 as they are first used, the lowest ahead, then the next, ..)");
        ApologyBells x = Due.laid("w0,0,9;w0,40,9;w0,0,9;w0,20,9;b0,1,0,0,0;b1,1,0,40,0;b2,1,0,0,0;b3,1,0,20,0;");
        is("how many", x.hours(-1), 2);
        are("the lowest HOUR for each that is free", x::hours, 0, 0, 1, 0);
        // They stand 0, 2, 3, 1, each clashing with the next alone: with 1 in HOUR 0 there would be three.
        ApologyBells y = Due.laid("w0,0,9;w0,12,9;w0,4,9;w0,8,9;b0,1,1,2,0;b1,1,1,14,0;b2,1,1,6,0;b3,1,1,10,0;");
        is("the fewest go ahead", y.hours(-1), 2);
        are("not the lowest HOUR for 1", y::hours, 0, 1, 1, 0);
    }

    private static void hushNumbers() {
        sentence(22, "HUSH, as bits. NONE; BAD");
        ApologyBells x = Due.laid("w0,20,9;w0,20,9;b0,2,0,20,0;b1,2,0,20,0;");
        onlyWithin("hush", 0, 1, x::hush);
    }

    private static void hushOnlyIfItHangs() {
        sentence(22, "NONE; BAD; NO: it does not hang");
        ApologyBells x = Due.laid("w3,20,9;w0,20,1;b1,2,0,20,0;");
        is("no BELL", x.hush(0), NO);
        x.cast(0, 2, 1);
        is("NO ahead of NONE", x.hush(0), NO);
        x.hang(0, 20, 0);
        is("NONE", x.hush(0), NONE);
        x.takeDown(0);
        is("TAKEN DOWN", x.hush(0), NO);
        x.pass(1);
        is("FORGIVEN, so MELTED", x.hush(1), NO);
    }

    private static void hushFewest() {
        sentence(22, "HUSH for a BELL that hangs: others that hang (bits), the fewest");
        ApologyBells x = Due.laid("w0,20,9;".repeat(7) + "b0,3,0,20,0;b1,3,0,20,0;b2,3,0,20,0;b3,3,0,20,0;b4,3,0,20,0;b5,3,0,20,0;b6,3,0,20,0;");
        for (int w = 0; w < 7; w++) {
            is("all others", x.hush(w), 127 - (1 << w));
        }
        x.hang(1, 20, 1);
        is("not one in another HOUR", x.hush(0), 124);
        x.hang(2, 21, 0);
        is("not one that is less LOUD", x.hush(0), 120);
        x.takeDown(3);
        is("not one that does not hang", x.hush(0), 112);
        x.hang(0, 20, 2);
        is("none, for it is HEARD", x.hush(0), 0);
    }

    private static void hushNone() {
        sentence(22, "without which it were HEARD on an even DAY; none");
        ApologyBells x = Due.laid("w0,20,9;w1,20,9;w3,20,9;w0,20,9;b0,1,0,22,0;b1,3,1,20,0;b2,2,1,20,0;b3,9,0,20,0;");
        is("0 LOUD", x.hush(0), NONE);
        is("7 LOUD to a DEAF one", x.hush(1), NONE);
        is("TIN to a PROUD one", x.hush(2), NONE);
        x.hang(0, 21, 0);
        is("1 LOUD", x.hush(0), 14);
        for (int kind = 0; kind <= 3; kind++) {
            is("0 LOUD to one of KIND " + kind, Due.laid("w" + kind + ",20,9;b0,9,0,2,0;").hush(0), NONE);
        }
        ApologyBells y = Due.laid("w1,20,9;w3,20,9;b0,4,0,20,0;b1,5,0,20,0;");
        is("8 LOUD to a DEAF one", y.hush(0), 2);
        is("no TIN to a PROUD one", y.hush(1), 0);
    }

    private static void hushOnAnEvenDay() {
        sentence(22, "it were HEARD on an even DAY");
        ApologyBells x = Due.laid("w2,20,9;w0,20,9;b0,2,0,20,0;b1,3,0,20,0;");
        is("on DAY 0", x.hush(0), 2);
        x.pass(1);
        is("on DAY 1", x.hush(0), 2);
        x.takeDown(1);
        is("none is to be silenced on DAY 1", x.hush(0), 0);
    }
}
