/** The edges that the document names for cast, hang, takeDown, melt, pass and undo (promises 11 to 16). */
final class ActsEdgesTest extends Edges {
    public static void main(String[] args) {
        castNumbers();
        castForOneWithout();
        castForOneNotForgiven();
        castOfWhatIsInStore();
        castDoesNotHang();
        hangNumbers();
        hangWithoutABell();
        hangInPlaceOfWhereItHangs();
        hangToWhomElse();
        takeDownOnlyIfItHangs();
        takeDownAtTheEnds();
        meltOnlyABell();
        meltAboveWhatATextCanTell();
        meltLeavesWhatWasHeard();
        passDays();
        passWithNothingHung();
        heardByHowTheyHangAhead();
        heardNTimes();
        forgivenOfSeveralDays();
        metalInStoreAgain();
        manyDays();
        undoNothing();
        undoTheLastEight();
        undoDaysAtOneTime();
        undoEachOfThese();
        undoActsAlone();
        undoBehindUndo();
        end();
    }

    private static void castNumbers() {
        sentence(11, "CAST: LOUD. BAD (C 1 to 30, T 0 to 30)");
        ApologyBells x = Due.laid("w0,5,1;w0,5,1;w0,5,1;m99,99;");
        onlyWithin("w", 0, 2, w -> x.cast(w, 1, 0));
        ApologyBells y = Due.laid("w0,5,1;m99,99;");
        onlyWithin("C", 1, 30, c -> y.cast(0, c, 0));
        ApologyBells z = Due.laid("w0,5,1;m99,99;");
        onlyWithin("T", 0, 30, t -> z.cast(0, 1, t));
        is("the least", Due.laid("w0,5,1;m99,99;").cast(0, 1, 0), 2);
        is("the most", Due.laid("w0,5,1;m99,99;").cast(0, 30, 30), 90);
        is("CRACKED", Due.laid("w0,5,1;m99,99;").cast(0, 1, 30), 16);
    }

    private static void castForOneWithout() {
        sentence(11, "A BELL is CAST for a WRONG that has none");
        ApologyBells x = Due.laid("w0,5,9;w0,6,9;b0,5,0,5,0;m9,9;");
        is("it hangs", x.cast(0, 1, 0), NO);
        x.takeDown(0);
        is("it does not hang", x.cast(0, 1, 0), NO);
        x.melt(0);
        is("it is MELTED", x.cast(0, 1, 0), 2);
        is("it is CAST", x.cast(0, 1, 0), NO);
        is("BAD ahead of NO", x.cast(0, 31, 0), BAD);
        is("the other has none", x.cast(1, 1, 0), 2);
    }

    private static void castForOneNotForgiven() {
        sentence(11, "is not FORGIVEN, of what is in store");
        ApologyBells x = Due.laid("w0,5,2;b0,5,0,5,0;m9,9;");
        x.pass(1);
        x.melt(0);
        is("HEARD but once", x.cast(0, 5, 0), 10);
        x.hang(0, 5, 0);
        x.pass(1);
        is("FORGIVEN", x.cast(0, 1, 0), NO);
        is("BAD ahead of NO", x.cast(0, 0, 0), BAD);
        x.undo();
        x.melt(0);
        is("UNDONE", x.cast(0, 1, 0), 2);
    }

    private static void castOfWhatIsInStore() {
        sentence(11, "of what is in store; it does not hang yet");
        String street = "w0,5,1;w0,5,1;m7,6;";
        is("a COPPER more", Due.laid(street).cast(0, 8, 0), NO);
        is("a TIN more", Due.laid(street).cast(0, 1, 7), NO);
        is("both more", Due.laid(street).cast(0, 8, 7), NO);
        ApologyBells x = Due.laid(street);
        is("all of it", x.cast(0, 7, 6), 20);
        is("no COPPER left", x.count(2), 0);
        is("no TIN left", x.count(3), 0);
        is("nothing in store", x.cast(1, 1, 0), NO);
        x.melt(0);
        is("in store again", x.cast(1, 7, 6), 20);
        ApologyBells y = Due.laid("w0,5,1;m1,0;");
        is("no TIN in store", y.cast(0, 1, 1), NO);
        is("none of it either", y.cast(0, 1, 0), 2);
    }

    private static void castDoesNotHang() {
        sentence(11, "it does not hang yet");
        ApologyBells x = Due.laid("w0,5,1;b0,5,0,7,3;");
        x.melt(0);
        x.cast(0, 5, 0);
        is("BELLS", x.count(4), 1);
        is("that hang", x.count(5), 0);
        is("nor where one hung ahead", x.bell(0, 2), NONE);
        x.pass(1);
        is("so it is not HEARD", x.wrong(0, 3), 0);
    }

    private static void hangNumbers() {
        sentence(12, "(WRONGS: such as there are; PLACES 0 to 40, HOURS 0 to 23)");
        ApologyBells x = Due.laid("w0,5,9;w0,6,9;w0,7,9;b0,1,0,5,0;b2,1,0,5,0;");
        onlyWithin("w", 0, 2, w -> x.hang(w, 0, 0));
        onlyWithin("PLACE", 0, 40, p -> x.hang(0, p, 0));
        onlyWithin("HOUR", 0, 23, h -> x.hang(0, 0, h));
        is("at the last PLACE", x.hang(0, 40, 23), 0);
        are("in the last HOUR", what -> x.bell(0, what), 1, 0, 40, 23);
        is("all BAD", x.hang(3, 41, 24), BAD);
    }

    private static void hangWithoutABell() {
        sentence(12, "BAD; NO: there is no BELL.");
        ApologyBells x = Due.laid("w0,5,1;w0,6,9;b0,1,0,5,0;");
        is("none yet", x.hang(1, 5, 0), NO);
        is("BAD ahead of NO", x.hang(1, 41, 0), BAD);
        is("BAD ahead of NO", x.hang(1, 0, 24), BAD);
        x.pass(1);
        is("FORGIVEN, so MELTED", x.hang(0, 5, 0), NO);
        x.cast(1, 1, 0);
        is("CAST", x.hang(1, 0, 0), 0);
        x.melt(1);
        is("MELTED", x.hang(1, 0, 0), NO);
    }

    private static void hangInPlaceOfWhereItHangs() {
        sentence(12, "It is HUNG at a PLACE, to ring in an HOUR (in place of where it hangs)");
        ApologyBells x = Due.laid("w0,5,9;b0,1,0,5,0;");
        x.hang(0, 30, 7);
        is("it hangs once", x.count(5), 1);
        are("there", what -> x.bell(0, what), 1, 0, 30, 7);
        is("where it hangs already", x.hang(0, 30, 7), 0);
        is("that is done, too", x.count(9), 2);
    }

    private static void hangToWhomElse() {
        sentence(12, "to whom else it is 1 LOUD or more (how many other WRONGS, FORGIVEN ones, too)");
        // 4 LOUD at 20: 1 at 17 and 23, 0 at 16 and 24.
        ApologyBells x = Due.laid("w0,20,9;w0,16,9;w0,17,9;w0,23,9;w0,24,9;w0,20,1;b0,2,0,0,0;b5,9,0,20,5;");
        is("1 LOUD, not 0, not its own", x.hang(0, 20, 0), 3);
        x.pass(1);
        is("FORGIVEN", x.wrong(5, 4), 1);
        is("FORGIVEN ones, too", x.hang(0, 20, 0), 3);
        is("nobody", x.hang(0, 40, 0), 0);
        ApologyBells y = Due.laid("w0,0,9;w0,40,9;w0,40,9;w0,40,9;w1,40,9;w2,40,9;w3,40,9;b0,20,1,9,0;");
        is("all six, though it is no 8 LOUD, has TIN", y.hang(0, 0, 0), 6);
    }

    private static void takeDownOnlyIfItHangs() {
        sentence(13, "TAKEN DOWN: where it hung. BAD; NO: it does not hang");
        ApologyBells x = Due.laid("w0,5,1;w0,6,9;b0,1,0,5,0;");
        onlyWithin("w", 0, 1, x::takeDown);
        is("it is TAKEN DOWN", x.takeDown(0), NO);
        is("no BELL", x.takeDown(1), NO);
        x.cast(1, 1, 0);
        is("CAST", x.takeDown(1), NO);
        x.hang(0, 5, 0);
        x.pass(1);
        is("FORGIVEN, so MELTED", x.takeDown(0), NO);
    }

    private static void takeDownAtTheEnds() {
        sentence(13, "TAKEN DOWN: where it hung");
        is("0", Due.laid("w0,5,1;b0,1,0,0,5;").takeDown(0), 0);
        is("40", Due.laid("w0,5,1;b0,1,0,40,5;").takeDown(0), 40);
        ApologyBells x = Due.laid("w0,5,1;b0,1,0,40,5;");
        x.hang(0, 7, 0);
        is("last", x.takeDown(0), 7);
    }

    private static void meltOnlyABell() {
        sentence(14, "MELTED: COPPER in store. BAD; NO: there is no BELL");
        ApologyBells x = Due.laid("w0,5,1;w0,6,9;w0,7,9;b0,3,2,5,0;b2,4,1,5,0;m0,0;");
        onlyWithin("w", 0, 2, x::melt);
        is("COPPER of both", x.count(2), 7);
        is("TIN of both", x.count(3), 3);
        is("it is MELTED", x.melt(0), NO);
        is("no BELL", x.melt(1), NO);
        x.cast(1, 7, 3);
        is("one that does not hang", x.melt(1), 7);
        is("TIN", x.count(3), 3);
        ApologyBells y = Due.laid("w0,5,1;b0,3,2,5,0;m0,0;");
        y.pass(1);
        is("FORGIVEN, so MELTED", y.melt(0), NO);
        is("not twice in store", y.count(2), 3);
    }

    private static void meltAboveWhatATextCanTell() {
        sentence(14, "MELTED: COPPER in store");
        ApologyBells x = Due.laid("w0,5,9;w0,5,9;w0,5,9;w0,5,9;w0,5,9;w0,5,9;w0,5,9;m99,99;"
            + "b0,30,30,0,0;b1,30,30,0,1;b2,30,30,0,2;b3,30,30,0,3;b4,30,30,0,4;b5,30,30,0,5;b6,30,30,0,6;");
        for (int w = 0; w < 7; w++) {
            is("of " + w, x.melt(w), 129 + 30 * w);
        }
        is("TIN", x.count(3), 309);
    }

    private static void meltLeavesWhatWasHeard() {
        sentence(14, "whose is HEARD N times or more has FORGIVEN then");
        ApologyBells x = Due.laid("w0,5,3;b0,3,0,5,0;");
        x.pass(2);
        x.melt(0);
        is("HEARD so far", x.wrong(0, 3), 2);
        is("not FORGIVEN", x.wrong(0, 4), 0);
        x.cast(0, 1, 0);
        x.hang(0, 5, 0);
        x.pass(1);
        is("FORGIVEN by the next BELL", x.wrong(0, 4), 1);
    }

    private static void passDays() {
        sentence(15, "n DAYS (1 to 24) go by: how many have gone by in all. BAD");
        ApologyBells x = new ApologyBells();
        onlyWithin("n", 1, 24, x::pass);
        is("none by what is BAD", x.count(1), 25);
        is("in all", x.pass(24), 49);
        is("in all", x.pass(1), 50);
        is("0", x.pass(0), BAD);
    }

    private static void passWithNothingHung() {
        sentence(15, "Then it is the next DAY");
        ApologyBells x = Due.laid("w0,5,1;");
        is("nothing hangs", x.pass(1), 1);
        is("nothing hangs", x.pass(24), 25);
        are("nothing else changes", x::count, 1, 25, 20, 10, 0, 0, 0, 0);
    }

    private static void heardByHowTheyHangAhead() {
        sentence(15, "each BELL that is HEARD, all by how they hang ahead");
        // Both ways: what is FORGIVEN first covers the one told behind it, and the one told ahead of it.
        ApologyBells x = Due.laid("w0,5,1;w0,5,1;b0,9,0,5,7;b1,3,0,5,7;");
        x.pass(1);
        is("FORGIVEN", x.wrong(0, 4), 1);
        is("told behind", x.wrong(1, 3), 0);
        ApologyBells y = Due.laid("w0,5,1;w0,5,1;b0,3,0,5,7;b1,9,0,5,7;");
        y.pass(1);
        is("FORGIVEN", y.wrong(1, 4), 1);
        is("told ahead", y.wrong(0, 3), 0);
        y.pass(1);
        is("by how they hang then", y.wrong(0, 4), 1);
        ApologyBells z = Due.laid("w0,5,1;w0,5,1;b0,3,0,5,7;b1,3,0,5,7;");
        z.pass(24);
        is("as LOUD, so neither ever", z.count(6), 0);
        ApologyBells all = Due.laid("w0,5,1;w1,5,1;w2,5,1;w3,5,1;b0,4,0,5,0;b1,4,0,5,1;b2,4,0,5,2;b3,4,0,5,3;");
        all.pass(1);
        is("all on one DAY", all.count(6), 4);
    }

    private static void heardNTimes() {
        sentence(15, "whose is HEARD N times or more has FORGIVEN then");
        ApologyBells one = Due.laid("w0,5,1;b0,3,0,5,7;");
        one.pass(1);
        is("once of once", one.wrong(0, 4), 1);
        ApologyBells x = Due.laid("w0,5,20;b0,3,0,5,7;");
        x.pass(19);
        is("19 of 20", x.wrong(0, 4), 0);
        is("it hangs still", x.wrong(0, 5), 2);
        x.pass(1);
        is("20 of 20", x.wrong(0, 4), 1);
        is("it is MELTED", x.wrong(0, 5), 0);
    }

    private static void forgivenOfSeveralDays() {
        sentence(15, "On a DAY each BELL that is HEARD");
        ApologyBells x = Due.laid("w0,5,3;w0,5,20;w2,30,2;b0,9,0,5,7;b1,3,0,5,7;b2,3,0,30,7;");
        x.pass(24);
        is("no more than N", x.wrong(0, 3), 3);
        is("behind that the other", x.wrong(1, 3), 20);
        is("on DAYS 0 and 2", x.wrong(2, 3), 2);
        ApologyBells y = Due.laid("w2,30,20;b0,3,0,30,7;");
        y.pass(1);
        y.pass(24);
        is("DAYS 0, 2, .. 24", y.wrong(0, 3), 13);
    }

    private static void metalInStoreAgain() {
        sentence(15, "the BELL is MELTED, its COPPER, TIN are in store again");
        ApologyBells x = Due.laid("w0,5,1;w0,30,2;b0,30,29,5,7;b1,3,1,30,7;m99,99;");
        x.pass(1);
        is("COPPER", x.count(2), 129);
        is("TIN", x.count(3), 128);
        is("BELLS", x.count(4), 1);
        is("that hang", x.count(5), 1);
        x.pass(24);
        is("once", x.count(2), 132);
        is("once", x.count(3), 129);
    }

    private static void manyDays() {
        sentence(15, "how many have gone by in all");
        ApologyBells x = Due.laid("w2,5,1;b0,3,0,40,7;");
        for (int i = 1; i <= 460; i++) {
            is("pass " + i, x.pass(i == 460 ? 23 : 24), i == 460 ? 11039 : 24 * i);
        }
        x.hang(0, 5, 7);
        is("odd", x.heard(0), 0);
        x.pass(1);
        is("even", x.heard(0), 1);
    }

    private static void undoNothing() {
        sentence(16, "UNDONE: how many more can be. NO");
        ApologyBells x = new ApologyBells();
        is("at first", x.undo(), NO);
        x.pass(1);
        is("one", x.undo(), 0);
        is("no more", x.undo(), NO);
        x.pass(1);
        x.keep();
        x.back();
        is("behind back()", x.undo(), NO);
        x.pass(1);
        Due.write(x, "w0,5,1;");
        x.lay();
        is("behind lay()", x.undo(), NO);
    }

    private static void undoTheLastEight() {
        sentence(16, "the last 8 can be");
        for (int acts : new int[] {1, 7, 8, 9, 15, 16, 17, 25}) {
            ApologyBells x = Due.laid("w0,5,1;b0,1,0,0,0;");
            for (int i = 1; i <= acts; i++) {
                x.hang(0, i, 0);
            }
            int can = Math.min(acts, 8);
            is("of " + acts, x.count(9), can);
            for (int i = 1; i <= can; i++) {
                is("undo " + i + " of " + acts, x.undo(), can - i);
                is("where it hung ahead", x.bell(0, 2), acts - i);
            }
            is("no more of " + acts, x.undo(), NO);
            is("it hangs there still", x.bell(0, 2), acts - can);
        }
    }

    private static void undoDaysAtOneTime() {
        sentence(16, "of DAYS (all that go by at one time are one");
        ApologyBells x = Due.laid("w0,5,20;w0,30,1;b0,1,0,5,0;b1,7,3,30,0;m0,0;");
        x.pass(1);
        x.pass(24);
        is("two", x.count(9), 2);
        x.undo();
        is("24 at one time", x.count(1), 1);
        is("HEARD once", x.wrong(0, 3), 1);
        is("FORGIVEN on the first", x.wrong(1, 4), 1);
        x.undo();
        is("one", x.count(1), 0);
        is("not FORGIVEN", x.wrong(1, 4), 0);
        are("it hangs again", what -> x.bell(1, what), 7, 3, 30, 0, 17, 0);
        is("not in store", x.count(2), 0);
        is("not in store", x.count(3), 0);
    }

    private static void undoEachOfThese() {
        sentence(16, "UNDONE are the latest of these, of DAYS");
        ApologyBells x = Due.laid("w0,5,9;w0,30,9;b0,1,0,5,0;m9,9;");
        x.cast(1, 2, 1);
        is("CAST", x.undo(), 0);
        is("CAST no more", x.wrong(1, 5), 0);
        x.hang(0, 40, 23);
        is("HUNG", x.undo(), 0);
        are("HUNG as it was", what -> x.bell(0, what), 1, 0, 5, 0);
        x.takeDown(0);
        is("TAKEN DOWN", x.undo(), 0);
        are("it hangs", what -> x.bell(0, what), 1, 0, 5, 0);
        x.melt(0);
        is("MELTED", x.undo(), 0);
        are("it hangs", what -> x.bell(0, what), 1, 0, 5, 0);
        is("not in store", x.count(2), 9);
        x.pass(1);
        is("a DAY", x.undo(), 0);
        is("no DAY", x.count(1), 0);
        is("nothing else", x.undo(), NO);
    }

    private static void undoActsAlone() {
        sentence(16, "UNDONE are the latest of these, of DAYS");
        ApologyBells x = Due.laid("w0,5,20;w0,30,1;b0,1,0,5,0;");
        x.note(5, 2);
        x.keep();
        x.write('w');
        x.wipe();
        x.forgives(0);
        x.year(0, 60, 0);
        x.snow(0, 8, 5, 0);
        is("none of these", x.undo(), NO);
        x.cast(1, 2, 1);
        x.keep();
        x.note(6, 1);
        x.write('m');
        is("CAST, not what came behind", x.undo(), 0);
        is("NOTED stays", x.count(8), 2);
        is("KEPT stays", x.count(10), 2);
        is("THE TEXT stays", x.count(11), 1);
        is("no BELL", x.bell(1, 0), NONE);
        is("in store again", x.count(2), 20);
        is("in store again", x.count(3), 10);
    }

    private static void undoBehindUndo() {
        sentence(16, "UNDONE: how many more can be");
        ApologyBells x = Due.laid("w0,5,1;b0,1,0,0,0;");
        for (int i = 1; i <= 8; i++) {
            x.hang(0, i, 0);
        }
        is("undo", x.undo(), 7);
        is("undo", x.undo(), 6);
        x.hang(0, 20, 0);
        x.hang(0, 21, 0);
        x.hang(0, 22, 0);
        is("the last 8", x.count(9), 8);
        int[] places = {21, 20, 6, 5, 4, 3, 2, 1};
        for (int i = 0; i < places.length; i++) {
            is("undo", x.undo(), 7 - i);
            is("where it hung ahead", x.bell(0, 2), places[i]);
        }
        is("no more", x.undo(), NO);
    }
}
