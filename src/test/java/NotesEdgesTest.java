/** The edges that the document names for note, forget, which and casts (promises 23 to 26). */
final class NotesEdgesTest extends Edges {
    public static void main(String[] args) {
        notePlaces();
        noteLoud();
        notedSixAtMost();
        forgetting();
        whichWithNothingNoted();
        whichOfThoseThatHang();
        whichByAllThatIsNoted();
        whichAtZero();
        whichFollowsTheStreet();
        castsNumbers();
        castsAtTheEnds();
        castsFirst();
        end();
    }

    private static void notePlaces() {
        sentence(23, "(WRONGS: such as there are; PLACES 0 to 40, HOURS 0 to 23)");
        ApologyBells x = new ApologyBells();
        onlyWithin("PLACE", 0, 40, place -> x.note(place, 0));
        is("what was BAD is not NOTED", x.count(8), 2);
    }

    private static void noteLoud() {
        sentence(23, "is l (0 to 99) LOUD at a PLACE");
        ApologyBells x = new ApologyBells();
        onlyWithin("l", 0, 99, l -> x.note(0, l));
        is("what was BAD is not NOTED", x.count(8), 2);
        is("more than any BELL is", x.note(0, 91), 3);
        is("both BAD", x.note(41, 100), BAD);
    }

    private static void notedSixAtMost() {
        sentence(23, "NOTED (6 at most)");
        ApologyBells x = new ApologyBells();
        for (int round = 0; round < 2; round++) {
            for (int i = 1; i <= 6; i++) {
                is("the next", x.note(40, 99), i);
            }
            is("the seventh", x.note(40, 99), FULL);
            is("the seventh again", x.note(0, 0), FULL);
            is("BAD ahead of FULL", x.note(41, 0), BAD);
            is("BAD ahead of FULL", x.note(0, 100), BAD);
            is("no more", x.count(8), 6);
            x.forget();
        }
    }

    private static void forgetting() {
        sentence(24, "Nothing is NOTED: how many were");
        ApologyBells x = new ApologyBells();
        is("nothing was", x.forget(), 0);
        x.note(0, 0);
        is("one was", x.forget(), 1);
        for (int i = 1; i <= 7; i++) {
            x.note(0, 0);
        }
        is("six were", x.forget(), 6);
        is("nothing is", x.forget(), 0);
        is("nothing is", x.count(8), 0);
    }

    private static void whichWithNothingNoted() {
        sentence(25, "WHICH: WRONGS (bits) whose BELLS hang, of which all that is NOTED is so");
        is("nothing NOTED", new ApologyBells().which(), 1 | 2 | 4 | 32);
        is("nothing NOTED, nothing hangs", Due.laid("w0,0,1;").which(), 0);
        ApologyBells x = Due.laid("w0,0,9;".repeat(7) + "b0,1,0,9,0;b1,1,0,9,0;b2,1,0,9,0;b3,1,0,9,0;b4,1,0,9,0;b5,1,0,9,0;b6,1,0,9,0;");
        is("nothing NOTED, all hang", x.which(), 127);
        x.note(9, 2);
        is("all are so", x.which(), 127);
        x.note(9, 3);
        is("none is so", x.which(), 0);
    }

    private static void whichOfThoseThatHang() {
        sentence(25, "WRONGS (bits) whose BELLS hang");
        ApologyBells x = Due.laid("w0,0,9;w0,30,1;b0,1,0,9,0;b1,1,0,30,0;m9,9;");
        x.note(20, 0);
        is("both", x.which(), 3);
        x.takeDown(0);
        is("TAKEN DOWN", x.which(), 2);
        x.pass(1);
        is("FORGIVEN, so MELTED", x.which(), 0);
    }

    private static void whichByAllThatIsNoted() {
        sentence(25, "that one BELL, always the same");
        // The two are as LOUD at 15; at 14 and at 16 they are not.
        ApologyBells x = Due.laid("w0,0,9;w0,0,9;b0,3,0,12,0;b1,3,0,18,0;");
        x.note(15, 3);
        is("one thing that is so of both", x.which(), 3);
        x.note(15, 3);
        is("the same again", x.which(), 3);
        x.note(14, 4);
        is("another that is so of one", x.which(), 1);
        x.note(16, 4);
        is("a third that is so of the other alone", x.which(), 0);
        x.forget();
        for (int place = 10; place <= 14; place++) {
            x.note(place, 6 - Math.abs(12 - place));
        }
        is("five", x.which(), 1);
        x.note(15, 4);
        is("the sixth counts, too", x.which(), 0);
    }

    private static void whichAtZero() {
        sentence(25, "is l (0 to 99) LOUD at a PLACE");
        ApologyBells x = Due.laid("w0,0,9;w0,0,9;w0,0,9;b0,20,0,0,0;b1,20,1,0,0;b2,30,30,40,0;");
        x.note(40, 0);
        is("0 LOUD", x.which(), 1);
        x.forget();
        x.note(40, 1);
        is("1 LOUD", x.which(), 2);
        x.forget();
        x.note(40, 90);
        is("as LOUD as can be", x.which(), 4);
        x.forget();
        x.note(40, 91);
        is("louder", x.which(), 0);
    }

    private static void whichFollowsTheStreet() {
        sentence(25, "WHICH, as bits");
        ApologyBells x = Due.laid("w0,0,9;b0,3,0,12,0;");
        x.note(12, 6);
        x.hang(0, 13, 0);
        is("it is HUNG elsewhere", x.which(), 0);
        x.undo();
        is("UNDONE", x.which(), 1);
        x.hang(0, 12, 9);
        is("in another HOUR", x.which(), 1);
    }

    private static void castsNumbers() {
        sentence(26, "CASTS: how many (what = 0), the first (1; NONE). BAD");
        ApologyBells x = new ApologyBells();
        onlyWithin("l", 0, 99, l -> x.casts(l, 0));
        onlyWithin("l", 0, 99, l -> x.casts(l, 1));
        onlyWithin("what", 0, 1, what -> x.casts(6, what));
        is("BAD ahead of NONE", x.casts(0, 2), BAD);
        is("both BAD", x.casts(100, 2), BAD);
    }

    private static void castsAtTheEnds() {
        sentence(26, "CASTS of l (0 to 99): how many BELLS (C 1 to 30, T 0 to 30) are l LOUD");
        ApologyBells x = Due.laid("w0,0,1;m0,0;");
        are("0", what -> x.casts(0, what), 0, NONE);
        are("1", what -> x.casts(1, what), 0, NONE);
        // 1 and 0; 1 and 2 (half of 4), 1 and 3 (half of 5).
        are("2", what -> x.casts(2, what), 3, 100);
        are("88", what -> x.casts(88, what), 1, 3028);
        are("89", what -> x.casts(89, what), 1, 3029);
        are("90", what -> x.casts(90, what), 1, 3030);
        are("91", what -> x.casts(91, what), 0, NONE);
        are("99", what -> x.casts(99, what), 0, NONE);
    }

    private static void castsFirst() {
        sentence(26, "the first (by C, then T), as 100 C and T; none");
        ApologyBells x = new ApologyBells();
        // 1 and 1; 1 and 4, 1 and 5, 2 and 3 (half of 6, 7, 7).
        are("3", what -> x.casts(3, what), 4, 101);
        are("16, CRACKED at the most TIN", what -> x.casts(16, what), 22, 130);
        // 1 and 30 are 16 LOUD, half of 32; 2 and 30 are 17, half of 34.
        are("17", what -> x.casts(17, what), 22, 230);
        // 29 and 30 are 44 LOUD, half of 88; of those with less COPPER 15 and 14 are the first.
        are("44", what -> x.casts(44, what), 9, 1514);
    }
}
