/** The edges that the document names for snow, year, keep, back and count (promises 27 to 31). */
final class SnowYearsEdgesTest extends Edges {
    public static void main(String[] args) {
        snowNumbers();
        snowOnNoDay();
        snowNeverOrAlways();
        snowInLowestTerms();
        snowIsADayAllTheSame();
        snowLetsNothingBeHeard();
        snowBehindWhatIsForgiven();
        yearNumbers();
        yearCasts();
        yearCastsIfItCan();
        yearHangs();
        yearHangsInAnHour();
        yearMelts();
        yearDoesNothingElse();
        yearByAsManyAsThereAre();
        yearOfLargeNumbers();
        yearToItsLastDay();
        yearFromNowOn();
        yearCountsAll();
        keptTwoAtMost();
        keptAllAsItStands();
        backToTheLast();
        backLeavesNotedAndText();
        backUndoesNothing();
        countNumbers();
        countAtLeast();
        countAtMost();
        end();
    }

    private static void snow(ApologyBells x, int n, int tenths, int above, int below) {
        String call = n + " DAYS by " + tenths + ", ";
        is(call + "above", x.snow(0, n, tenths, 0), above);
        is(call + "below", x.snow(0, n, tenths, 1), below);
    }

    private static void snowNumbers() {
        sentence(27, "SNOW: above (part = 0), below (1). BAD");
        ApologyBells x = Due.laid("w0,5,1;w0,5,1;b0,9,0,5,0;");
        onlyWithin("w", 0, 1, w -> x.snow(w, 1, 1, 0));
        onlyWithin("part", 0, 1, part -> x.snow(0, 1, 1, part));
        sentence(27, "on each of n (0 to 8) DAYS");
        onlyWithin("n", 0, 8, n -> x.snow(0, n, 1, 0));
        sentence(27, "by x (0 to 10) of ten");
        onlyWithin("x", 0, 10, tenths -> x.snow(0, 1, tenths, 0));
        is("all BAD", x.snow(2, 9, 11, 2), BAD);
    }

    private static void snowOnNoDay() {
        sentence(27, "on each of n (0 to 8) DAYS nothing is HEARD");
        ApologyBells x = Due.laid("w0,5,1;b0,9,0,5,0;");
        snow(x, 0, 0, 0, 1);
        snow(x, 0, 5, 0, 1);
        snow(x, 0, 10, 0, 1);
        x.pass(1);
        snow(x, 0, 0, 1, 1);
        snow(x, 0, 10, 1, 1);
    }

    private static void snowNeverOrAlways() {
        sentence(27, "by x (0 to 10) of ten, for itself");
        ApologyBells x = Due.laid("w0,5,8;b0,9,0,5,0;");
        snow(x, 7, 0, 0, 1);
        snow(x, 8, 0, 1, 1);
        snow(x, 8, 10, 0, 1);
        snow(x, 8, 1, 43046721, 100000000);
        snow(x, 8, 9, 1, 100000000);
        ApologyBells y = Due.laid("w0,5,1;");
        snow(y, 8, 0, 0, 1);
        snow(y, 8, 5, 0, 1);
    }

    private static void snowInLowestTerms() {
        sentence(27, "the chance that a WRONG is FORGIVEN behind them, in lowest terms");
        ApologyBells x = Due.laid("w0,5,1;b0,9,0,5,0;");
        snow(x, 1, 5, 1, 2);
        snow(x, 1, 2, 4, 5);
        snow(x, 1, 4, 3, 5);
        snow(x, 1, 3, 7, 10);
        snow(x, 1, 1, 9, 10);
        snow(x, 2, 5, 3, 4);
        snow(x, 2, 1, 99, 100);
        snow(x, 2, 9, 19, 100);
        snow(x, 8, 5, 255, 256);
        snow(x, 8, 3, 99993439, 100000000);
        snow(x, 8, 9, 56953279, 100000000);
        // Two of three: 3 by 7/10 by 7/10 by 3/10, and 7/10 three times.
        snow(Due.laid("w0,5,2;b0,9,0,5,0;"), 3, 3, 98, 125);
    }

    private static void snowIsADayAllTheSame() {
        sentence(27, "(it is a DAY all the same)");
        ApologyBells x = Due.laid("w2,5,1;b0,9,0,5,0;");
        snow(x, 1, 5, 1, 2);
        snow(x, 2, 5, 1, 2);
        snow(x, 3, 5, 3, 4);
        snow(x, 8, 5, 15, 16);
        x.takeDown(0);
        x.pass(1);
        x.hang(0, 5, 0);
        snow(x, 1, 0, 0, 1);
        snow(x, 2, 0, 1, 1);
        snow(x, 3, 5, 1, 2);
        snow(x, 8, 5, 15, 16);
    }

    private static void snowLetsNothingBeHeard() {
        sentence(27, "nothing is HEARD (it is a DAY all the same)");
        // It is covered until the other is FORGIVEN, for whom it snows on the same DAYS.
        ApologyBells x = Due.laid("w0,5,1;w0,5,1;b0,3,0,5,0;b1,9,0,5,0;");
        snow(x, 1, 5, 0, 1);
        snow(x, 2, 5, 1, 4);
        snow(x, 3, 5, 1, 2);
        snow(x, 8, 0, 1, 1);
        // Two DAYS at least without snow of eight: all less none and one of them, (1 and 8) of 256.
        snow(x, 8, 5, 247, 256);
    }

    private static void snowBehindWhatIsForgiven() {
        sentence(27, "the chance that a WRONG is FORGIVEN behind them");
        ApologyBells x = Due.laid("w0,5,1;w0,30,1;b0,9,0,5,0;");
        x.pass(1);
        snow(x, 8, 10, 1, 1);
        snow(x, 8, 5, 1, 1);
        is("the other", x.snow(1, 8, 5, 0), 0);
        is("the other", x.snow(1, 8, 5, 1), 1);
    }

    private static void yearNumbers() {
        sentence(28, "A YEAR by z (0 to 9999) of n (1 to 60) DAYS");
        ApologyBells x = new ApologyBells();
        onlyWithin("z", 0, 9999, z -> x.year(z, 1, 0));
        onlyWithin("n", 1, 60, n -> x.year(0, n, 0));
        onlyWithin("what", 0, 1, what -> x.year(0, 1, what));
        is("no DAY", x.year(0, 0, 0), BAD);
        is("all BAD", x.year(10000, 0, 2), BAD);
    }

    /** How much copper is in store behind a year of one day. */
    private static int copperBy(int z, String street) {
        return Due.laid(street).year(z, 1, 1);
    }

    private static int forgivenBy(int z, String street) {
        return Due.laid(street).year(z, 1, 0);
    }

    private static void yearCasts() {
        sentence(28, "if DRAW modulo 8 is 0 or 1, a BELL is CAST of (DRAW by 64, cut) modulo 9 and 1 of COPPER, (DRAW by 512, cut) modulo 5 of TIN");
        // z: DRAW, DRAW modulo 8, COPPER, TIN. 0: 1, 1, 1, 0. 5: 56728, 0, 5, 0. 17: 54129, 1, 9, 0. 117: 15600, 0, 1, 0. 21: 62152, 0, 9, 1.
        is("1, the least by 1", copperBy(0, "w0,5,1;m20,20;"), 19);
        is("0", copperBy(5, "w0,5,1;m20,20;"), 15);
        is("1, the most", copperBy(17, "w0,5,1;m20,20;"), 11);
        is("0, the least", copperBy(117, "w0,5,1;m20,20;"), 19);
        is("0, the most", copperBy(21, "w0,5,1;m20,20;"), 11);
    }

    private static void yearCastsIfItCan() {
        sentence(28, "each if it can be");
        is("all of the COPPER", copperBy(5, "w0,5,1;m5,0;"), 0);
        is("a COPPER less", copperBy(5, "w0,5,1;m4,0;"), 4);
        // z 49: DRAW 2520, 4 of COPPER, 4 of TIN.
        is("all of the TIN", copperBy(49, "w0,5,1;m20,4;"), 16);
        is("a TIN less", copperBy(49, "w0,5,1;m20,3;"), 20);
        // z 42: DRAW 42056, 1 of COPPER, 2 of TIN.
        is("all of the TIN", copperBy(42, "w0,5,1;m20,2;"), 19);
        is("a TIN less", copperBy(42, "w0,5,1;m20,1;"), 20);
        is("it has one", copperBy(5, "w0,5,1;b0,1,0,40,0;m20,20;"), 20);
        ApologyBells x = Due.laid("w0,5,1;b0,1,0,5,0;m20,20;");
        x.pass(1);
        is("it is FORGIVEN", x.year(5, 1, 1), 21);
        is("HUNG without a BELL", forgivenBy(16, "w0,37,1;m20,20;"), 0);
        is("MELTED without a BELL", copperBy(15, "w0,5,1;m20,20;"), 20);
    }

    private static void yearHangs() {
        sentence(28, "if 2 or 3, it is HUNG at (DRAW by 64, cut) modulo 41");
        // z: DRAW, DRAW modulo 8, PLACE. 16: 5042, 2, 37. 1: 22803, 3, 28. 213: 39378, 2, 0. 63: 5234, 2, 40.
        int[][] draws = {{16, 37}, {1, 28}, {213, 0}, {63, 40}};
        for (int[] draw : draws) {
            for (int home = Math.max(0, draw[1] - 3); home <= Math.min(40, draw[1] + 3); home++) {
                // 2 LOUD: it is heard where it hangs, and one PLACE away; at first it hangs too far.
                String street = "w0," + home + ",1;b0,1,0," + (home < 20 ? 40 : 0) + ",0;";
                is("by " + draw[0] + " to one at " + home, forgivenBy(draw[0], street), Math.abs(home - draw[1]) <= 1 ? 1 : 0);
            }
        }
        is("one that does not hang yet", yearOfOneLying(), 1);
    }

    private static int yearOfOneLying() {
        ApologyBells x = Due.laid("w0,37,1;");
        x.cast(0, 1, 0);
        return x.year(16, 1, 0);
    }

    private static void yearHangsInAnHour() {
        sentence(28, "in HOUR (DRAW by 512, cut) modulo 24");
        // z: DRAW, WRONG of 7, PLACE, HOUR. 136: 49155, 5, 30, 0. 264: 36786, 6, 0, 23. 342: 24099, 2, 7, 23. 953: 49131, 2, 29, 23.
        int[][] draws = {{136, 5, 30, 0}, {264, 6, 0, 23}, {342, 2, 7, 23}, {953, 2, 29, 23}};
        for (int[] draw : draws) {
            for (int hour : new int[] {0, 1, 22, 23}) {
                String wrongs = ("w0," + draw[2] + ",1;").repeat(7);
                // A PROUD one's BELL, of TIN, covers it in its own HOUR and is not heard itself.
                String street = "w3," + draw[2] + ",1;" + wrongs.substring(wrongs.length() / 7)
                    + "b0,9,1," + draw[2] + "," + hour + ";b" + draw[1] + ",1,0," + (draw[2] < 20 ? 40 : 0) + ",12;";
                is("by " + draw[0] + ", covered in " + hour, forgivenBy(draw[0], street), hour == draw[3] ? 0 : 1);
            }
        }
    }

    private static void yearMelts() {
        sentence(28, "if 4, MELTED");
        // z 15: DRAW 35404, modulo 8 4.
        is("MELTED", copperBy(15, "w0,5,1;b0,7,0,40,0;m20,20;"), 27);
        is("ahead of the DAY, so not HEARD", forgivenBy(15, "w0,5,1;b0,7,0,5,0;m20,20;"), 0);
        ApologyBells x = Due.laid("w0,5,1;m20,20;");
        x.cast(0, 7, 0);
        is("one that does not hang", x.year(15, 1, 1), 20);
    }

    private static void yearDoesNothingElse() {
        sentence(28, "if DRAW modulo 8 is 0 or 1");
        // z: DRAW, DRAW modulo 8. 2: 59533, 5. 3: 44670, 6. 4: 43735, 7.
        for (int z = 2; z <= 4; z++) {
            is("no CAST by " + z, copperBy(z, "w0,5,1;m20,20;"), 20);
            is("not MELTED by " + z, copperBy(z, "w0,5,1;b0,7,0,40,0;m20,20;"), 20);
            is("not HUNG by " + z, forgivenBy(z, "w0,20,1;b0,20,0,20,0;"), 1);
            is("not HUNG by " + z, forgivenBy(z, "w0,28,1;b0,1,0,40,0;"), 0);
        }
    }

    private static void yearByAsManyAsThereAre() {
        sentence(28, "for WRONG (DRAW by 8, cut) modulo as many as there are");
        // DRAW by 8 for z 60 is 1105: 0 of 1, 1 of 2, 1 of 3, 6 of 7; for z 138 it is 3920: 0 of 1, 2, 7, 2 of 3.
        String bells = "b0,1,0,40,0;b1,2,0,40,0;b2,4,0,40,0;b3,8,0,40,0;b4,16,0,40,0;b5,3,0,40,0;b6,5,0,40,0;m0,0;";
        int[] many = {1, 2, 3, 7};
        int[] by60 = {1, 2, 2, 5};
        int[] by138 = {1, 1, 4, 1};
        for (int i = 0; i < many.length; i++) {
            String wrongs = "w0,5,1;".repeat(many[i]);
            String hung = bells.substring(0, bells.indexOf(many[i] == 7 ? "m" : "b" + many[i])) + "m0,0;";
            is("MELTED of " + many[i] + " by 60", copperBy(60, wrongs + hung), by60[i]);
            is("MELTED of " + many[i] + " by 138", copperBy(138, wrongs + hung), by138[i]);
        }
    }

    private static void yearOfLargeNumbers() {
        sentence(28, "DRAW being (x times x) modulo 65521, x 7919 z, 6151 k and 1 together");
        // x times x is more than an int holds from z 6 on. z 9998: DRAW 8482, HUNG at 9; z 9999: 51303, modulo 8 7.
        is("9998, one lower", forgivenBy(9998, "w0,8,1;b0,1,0,40,0;"), 1);
        is("9998, one higher", forgivenBy(9998, "w0,10,1;b0,1,0,40,0;"), 1);
        is("9998, not CAST", copperBy(9998, "w0,8,1;m20,20;"), 20);
        is("9999, not CAST", copperBy(9999, "w0,8,1;m20,20;"), 20);
        is("9999, not MELTED", copperBy(9999, "w0,8,1;b0,1,0,40,0;m20,20;"), 20);
        is("9999, not HUNG", forgivenBy(9999, "w0,8,1;b0,1,0,8,0;m20,20;"), 1);
        // z 6: DRAW 18128, CAST of 5.
        is("6", copperBy(6, "w0,8,1;m20,20;"), 15);
    }

    private static void yearToItsLastDay() {
        sentence(28, "ahead of the k-th (0 first)");
        // By z 25 WRONG 0 of 7 is drawn for k 14, 15, 20, 27 (nothing), 59 (HUNG at 23); nothing can be CAST for the others.
        ApologyBells x = Due.laid("w0,23,1;" + "w0,0,1;".repeat(6) + "b0,1,0,40,0;m0,0;");
        is("59 DAYS", x.year(25, 59, 0), 0);
        is("60 DAYS", x.year(25, 60, 0), 1);
        is("60 DAYS, in store again", x.year(25, 60, 1), 1);
    }

    private static void yearFromNowOn() {
        sentence(28, "DAYS from now on (nothing changes by it)");
        // As above, to a GRAVE one: the last DAY is DAY 59 from DAY 0 on, and DAY 60 from DAY 1 on.
        ApologyBells x = Due.laid("w2,23,1;" + "w0,0,1;".repeat(6) + "b0,1,0,40,0;m0,0;");
        is("to DAY 59", x.year(25, 60, 0), 0);
        x.pass(1);
        is("to DAY 60", x.year(25, 60, 0), 1);
        is("nothing changes", x.count(1), 1);
        is("nothing changes", x.bell(0, 2), 40);
        is("nothing changes", x.wrong(0, 4), 0);
        is("nothing is done that can be UNDONE", x.count(9), 1);
    }

    private static void yearCountsAll() {
        sentence(28, "how many are FORGIVEN then; how much COPPER is in store");
        ApologyBells x = Due.laid("w0,5,1;w0,30,1;b0,3,0,5,0;b1,4,0,30,0;m99,99;");
        // z 4: DRAW 43735 does nothing.
        is("both", x.year(4, 1, 0), 2);
        is("more than a TEXT can tell", x.year(4, 1, 1), 106);
        x.pass(1);
        is("FORGIVEN already", x.year(4, 1, 0), 2);
    }

    private static void keptTwoAtMost() {
        sentence(29, "KEPT: how many. FULL");
        ApologyBells x = new ApologyBells();
        for (int round = 0; round < 2; round++) {
            is("the first", x.keep(), 1);
            is("the second", x.keep(), 2);
            is("the third", x.keep(), FULL);
            is("the third again", x.keep(), FULL);
            is("no more", x.count(10), 2);
            is("back", x.back(), 1);
            is("there is room again", x.keep(), 2);
            is("and no more", x.keep(), FULL);
            x.back();
            x.back();
        }
        sentence(29, "(these stay by back(), behind which nothing can be UNDONE): 2 at most");
        x.keep();
        x.pass(1);
        x.keep();
        x.pass(1);
        is("a refused one", x.keep(), FULL);
        x.back();
        is("is not KEPT in place of the last", x.count(1), 1);
        x.back();
        is("nor in place of the first", x.count(1), 0);
    }

    private static void keptAllAsItStands() {
        sentence(29, "KEPT is all as it stands");
        ApologyBells x = Due.laid("w0,5,9;w0,30,1;w3,5,9;b0,3,0,5,0;b1,4,1,30,0;m7,8;");
        x.pass(1);
        x.cast(2, 2, 1);
        is("what can be UNDONE stays", x.keep() == 1 ? x.count(9) : BAD, 2);
        x.pass(24);
        x.melt(2);
        x.back();
        are("count", x::count, 3, 1, 9, 8, 2, 1, 1, 1, 0, 0, 0);
        are("the first", what -> x.wrong(0, what), 0, 5, 9, 1, 0, 2);
        are("the first's", what -> x.bell(0, what), 3, 0, 5, 0, 6, 0);
        are("the second", what -> x.wrong(1, what), 0, 30, 1, 1, 1, 0);
        are("the third", what -> x.wrong(2, what), 3, 5, 9, 0, 0, 1);
        are("the third's", what -> x.bell(2, what), 2, 1, NONE, NONE, 5, 0);
    }

    private static void backToTheLast() {
        sentence(30, "As KEPT last (it is KEPT no more then): how many are left");
        ApologyBells x = new ApologyBells();
        is("nothing KEPT", x.back(), NO);
        x.pass(1);
        x.keep();
        x.pass(2);
        x.keep();
        x.pass(3);
        is("one is left", x.back(), 1);
        is("the last", x.count(1), 3);
        is("KEPT no more", x.count(10), 1);
        x.pass(4);
        is("none is left", x.back(), 0);
        is("the first", x.count(1), 1);
        is("nothing KEPT", x.back(), NO);
        is("nothing changes then", x.count(1), 1);
    }

    private static void backLeavesNotedAndText() {
        sentence(30, "but what is NOTED and THE TEXT (these stay by back()");
        ApologyBells x = Due.laid("w0,5,9;b0,3,0,5,0;");
        x.note(5, 6);
        x.keep();
        x.note(5, 5);
        x.wipe();
        Due.write(x, "w0,1,1;w");
        x.back();
        is("NOTED", x.count(8), 2);
        is("NOTED as it is", x.which(), 0);
        is("THE TEXT", x.count(11), 8);
        is("THE TEXT as it is", x.fault(), 7);
        x.keep();
        x.forget();
        x.wipe();
        x.back();
        is("nothing NOTED", x.count(8), 0);
        is("an empty TEXT", x.count(11), 0);
    }

    private static void backUndoesNothing() {
        sentence(30, "nothing is UNDONE then");
        ApologyBells x = new ApologyBells();
        for (int i = 0; i < 9; i++) {
            x.pass(1);
        }
        x.keep();
        x.pass(1);
        x.back();
        is("none can be", x.count(9), 0);
        is("undo", x.undo(), NO);
        is("as KEPT", x.count(1), 9);
        x.pass(1);
        is("what comes behind can be", x.undo(), 0);
        is("as KEPT", x.count(1), 9);
    }

    private static void countNumbers() {
        sentence(31, "11 letters of THE TEXT. BAD");
        ApologyBells x = new ApologyBells();
        onlyWithin("count", 0, 11, x::count);
        is("12", x.count(12), BAD);
    }

    private static void countAtLeast() {
        sentence(31, "How many: 0 WRONGS, 1 DAYS gone by (so the DAY), 2 COPPER in store, 3 TIN, 4 BELLS, 5 that hang, 6 FORGIVEN, 7 HEARD on this DAY,"
            + " 8 NOTED, 9 that can be UNDONE, 10 KEPT, 11 letters of THE TEXT");
        ApologyBells x = Due.laid("w0,5,1;m0,0;");
        x.wipe();
        are("as few as can be", x::count, 1, 0, 0, 0, 0, 0, 0, 0, 0, 0, 0, 0, BAD);
    }

    private static void countAtMost() {
        sentence(31, "8 NOTED, 9 that can be UNDONE, 10 KEPT, 11 letters of THE TEXT");
        ApologyBells x = Due.laid("w0,0,9;w0,5,9;w0,10,9;w0,15,9;w0,20,9;w0,25,9;w2,30,9;m99,98;"
            + "b0,1,0,0,0;b1,1,0,5,0;b2,1,0,10,0;b3,1,0,15,0;b4,1,0,20,0;b5,1,0,25,0;b6,1,0,30,0;");
        for (int i = 0; i < 9; i++) {
            x.note(0, 0);
            x.keep();
            x.hang(0, 0, i);
        }
        for (int i = 0; i < 99; i++) {
            x.write(' ');
        }
        are("all full", x::count, 7, 0, 99, 98, 7, 7, 0, 7, 6, 8, 2, 200, BAD);
        x.takeDown(3);
        x.pass(1);
        are("one does not hang, one hears on even DAYS", x::count, 7, 1, 99, 98, 7, 6, 0, 5, 6, 8, 2, 200, BAD);
        x.pass(24);
        are("all but one FORGIVEN", x::count, 7, 25, 105, 98, 1, 0, 6, 0, 6, 8, 2, 200, BAD);
    }
}
