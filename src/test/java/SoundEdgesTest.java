/** The edges that the document names for wrong, bell, loud, covered and heard (promises 6 to 10). */
final class SoundEdgesTest extends Edges {
    private static final String SEVEN_AT_10 = "w0,10,20;".repeat(7);

    public static void main(String[] args) {
        wrongsThereAre();
        whatOfAWrong();
        heardNeverMoreThanForgiven();
        withoutABellOrNotHung();
        whatOfABell();
        noBell();
        notHung();
        loudByMetal();
        crackedOrNot();
        halfIsCut();
        loudByHowFar();
        loudPlaces();
        loudOnlyIfItHangs();
        coveredByAnother();
        coveredByWhatHangs();
        coveredInTheSameHour();
        coveredByNoLessLoud();
        coveredByOneAtLeast();
        coveredByAllOthers();
        coveredOnlyIfItHangs();
        plainHears();
        deafHears();
        graveHears();
        proudHears();
        heardIfCoveredByNone();
        coveredByWhatIsNotHeard();
        heardOnlyIfItHangs();
        end();
    }

    private static void wrongsThereAre() {
        sentence(6, "WRONGS: such as there are");
        ApologyBells one = Due.laid("w0,1,1;b0,1,0,1,0;");
        ApologyBells seven = Due.laid(SEVEN_AT_10 + "b0,1,0,1,0;b6,1,0,1,0;");
        onlyWithin("wrong, of one", 0, 0, w -> one.wrong(w, 0));
        onlyWithin("wrong, of seven", 0, 6, w -> seven.wrong(w, 0));
        onlyWithin("bell, of one", 0, 0, w -> one.bell(w, 0));
        onlyWithin("bell, of seven", 0, 6, w -> seven.bell(w, 0));
        onlyWithin("loud, of one", 0, 0, w -> one.loud(w, 0));
        onlyWithin("loud, of seven", 0, 6, w -> seven.loud(w, 0));
        onlyWithin("covered, of one", 0, 0, one::covered);
        onlyWithin("covered, of seven", 0, 6, seven::covered);
        onlyWithin("heard, of one", 0, 0, one::heard);
        onlyWithin("heard, of seven", 0, 6, seven::heard);
    }

    private static void whatOfAWrong() {
        sentence(6, "Of a WRONG: KIND (what = 0)");
        ApologyBells x = new ApologyBells();
        onlyWithin("wrong", 0, 5, what -> x.wrong(0, what));
        is("both BAD", x.wrong(6, 6), BAD);
    }

    private static void heardNeverMoreThanForgiven() {
        sentence(6, "how often it was HEARD (3), 1 if FORGIVEN (4)");
        ApologyBells x = Due.laid("w0,10,2;b0,1,0,10,0;");
        int[] heard = {0, 1, 2, 2};
        int[] forgiven = {0, 0, 1, 1};
        for (int day = 0; day < heard.length; day++) {
            is("HEARD by DAY " + day, x.wrong(0, 3), heard[day]);
            is("FORGIVEN by DAY " + day, x.wrong(0, 4), forgiven[day]);
            x.pass(1);
        }
    }

    private static void withoutABellOrNotHung() {
        sentence(6, "0 without a BELL, 1 if that does not hang, 2 if it does (5)");
        ApologyBells x = Due.laid("w0,10,2;");
        is("none", x.wrong(0, 5), 0);
        x.cast(0, 1, 0);
        is("CAST", x.wrong(0, 5), 1);
        x.hang(0, 0, 0);
        is("HUNG", x.wrong(0, 5), 2);
        x.takeDown(0);
        is("TAKEN DOWN", x.wrong(0, 5), 1);
        x.melt(0);
        is("MELTED", x.wrong(0, 5), 0);
    }

    private static void whatOfABell() {
        sentence(7, "Of a WRONG's BELL: COPPER (what = 0)");
        ApologyBells x = new ApologyBells();
        onlyWithin("bell", 0, 5, what -> x.bell(0, what));
        is("both BAD", x.bell(6, 6), BAD);
    }

    private static void noBell() {
        sentence(7, "NONE: there is none; BAD");
        ApologyBells x = Due.laid("w0,10,1;w0,20,9;b0,1,0,10,0;b1,1,0,20,0;m0,0;");
        x.pass(1);
        are("FORGIVEN, so MELTED", what -> x.bell(0, what), NONE, NONE, NONE, NONE, NONE, NONE, BAD);
        x.melt(1);
        are("MELTED", what -> x.bell(1, what), NONE, NONE, NONE, NONE, NONE, NONE, BAD);
        is("BAD ahead of NONE", x.bell(1, -1), BAD);
        is("BAD ahead of NONE", x.bell(2, 0), BAD);
    }

    private static void notHung() {
        sentence(7, "PLACE (2; NONE: it does not hang), HOUR (3; NONE)");
        ApologyBells x = Due.laid("w0,10,9;w0,20,9;b0,3,1,0,0;m9,9;");
        are("at PLACE 0, in HOUR 0", what -> x.bell(0, what), 3, 1, 0, 0, 7, 0);
        x.takeDown(0);
        are("TAKEN DOWN", what -> x.bell(0, what), 3, 1, NONE, NONE, 7, 0);
        x.cast(1, 3, 4);
        are("CAST", what -> x.bell(1, what), 3, 4, NONE, NONE, 5, 1);
    }

    private static int loudOf(int c, int t) {
        return Due.laid("w0,0,1;b0," + c + "," + t + ",0,0;").bell(0, 4);
    }

    private static int crackedOf(int c, int t) {
        return Due.laid("w0,0,1;b0," + c + "," + t + ",0,0;").bell(0, 5);
    }

    private static void loudByMetal() {
        sentence(7, "A BELL has LOUD: twice its COPPER, and its TIN");
        is("the least", loudOf(1, 0), 2);
        is("the most COPPER alone", loudOf(30, 0), 60);
        is("the most of both", loudOf(30, 30), 90);
        is("a TIN more", loudOf(4, 1), 9);
        is("a COPPER more", loudOf(5, 0), 10);
    }

    private static void crackedOrNot() {
        sentence(7, "it is CRACKED, if it has more TIN than COPPER: half of that then");
        is("one less", crackedOf(5, 4), 0);
        is("one less, LOUD", loudOf(5, 4), 14);
        is("as much", crackedOf(5, 5), 0);
        is("as much, LOUD", loudOf(5, 5), 15);
        is("one more", crackedOf(5, 6), 1);
        is("one more, LOUD", loudOf(5, 6), 8);
        is("30 and 30", crackedOf(30, 30), 0);
        is("29 and 30", crackedOf(29, 30), 1);
        is("29 and 30, LOUD", loudOf(29, 30), 44);
        is("1 and 30", crackedOf(1, 30), 1);
        is("1 and 30, LOUD", loudOf(1, 30), 16);
        is("1 and 0", crackedOf(1, 0), 0);
    }

    private static void halfIsCut() {
        sentence(7, "half of that then, cut");
        is("17", loudOf(5, 7), 8);
        is("18", loudOf(5, 8), 9);
        is("5", loudOf(1, 3), 2);
        is("87", loudOf(29, 29), 87);
        is("86", loudOf(28, 30), 43);
        is("31", loudOf(1, 29), 15);
    }

    private static void loudByHowFar() {
        sentence(8, "At a PLACE it is as LOUD as that less how far it hangs from there (0 at least)");
        ApologyBells x = Due.laid("w0,5,3;b0,3,0,20,0;");
        int[] places = {0, 13, 14, 15, 19, 20, 21, 25, 26, 27, 40};
        int[] loud = {0, 0, 0, 1, 5, 6, 5, 1, 0, 0, 0};
        for (int i = 0; i < places.length; i++) {
            is("at " + places[i], x.loud(0, places[i]), loud[i]);
        }
        is("the whole street long", Due.laid("w0,5,3;b0,20,1,0,0;").loud(0, 40), 1);
        is("the whole street long, back", Due.laid("w0,5,3;b0,20,1,40,0;").loud(0, 0), 1);
        is("one less", Due.laid("w0,5,3;b0,20,0,40,0;").loud(0, 0), 0);
        is("half of a CRACKED one, then how far", Due.laid("w0,5,3;b0,3,9,20,0;").loud(0, 18), 5);
    }

    private static void loudPlaces() {
        sentence(8, "How LOUD a WRONG's BELL is at a PLACE. BAD");
        ApologyBells x = new ApologyBells();
        onlyWithin("loud", 0, 40, place -> x.loud(0, place));
        is("BAD ahead of NO", x.loud(3, 41), BAD);
        is("BAD ahead of NO", x.loud(3, -1), BAD);
        is("both BAD", x.loud(6, 41), BAD);
    }

    private static void loudOnlyIfItHangs() {
        sentence(8, "How LOUD a WRONG's BELL is at a PLACE. BAD; NO: it does not hang");
        ApologyBells x = Due.laid("w0,5,3;");
        is("no BELL", x.loud(0, 0), NO);
        x.cast(0, 9, 0);
        is("CAST", x.loud(0, 0), NO);
        x.hang(0, 0, 0);
        is("HUNG", x.loud(0, 0), 18);
        x.takeDown(0);
        is("TAKEN DOWN", x.loud(0, 0), NO);
        x.melt(0);
        is("MELTED", x.loud(0, 0), NO);
    }

    private static void coveredByAnother() {
        sentence(9, "it is COVERED there by another BELL");
        ApologyBells x = Due.laid("w0,10,3;w0,10,3;b0,3,0,10,0;");
        is("not by itself", x.covered(0), 0);
        x.cast(1, 3, 0);
        x.hang(1, 10, 0);
        is("by the other", x.covered(0), 2);
        is("by the other", x.covered(1), 1);
    }

    private static void coveredByWhatHangs() {
        sentence(9, "COVERED there by another BELL that hangs");
        ApologyBells x = Due.laid("w0,10,3;w0,10,3;b0,3,0,10,0;b1,3,0,10,0;");
        is("it hangs", x.covered(0), 2);
        x.takeDown(1);
        is("it does not", x.covered(0), 0);
        x.hang(1, 10, 0);
        is("it hangs again", x.covered(0), 2);
        x.melt(1);
        is("it is MELTED", x.covered(0), 0);
        x.cast(1, 9, 0);
        is("it is CAST", x.covered(0), 0);
    }

    private static void coveredInTheSameHour() {
        sentence(9, "rings in the same HOUR");
        ApologyBells x = Due.laid("w0,10,3;w0,10,3;b0,3,0,10,23;b1,9,0,10,23;");
        is("23", x.covered(0), 2);
        x.hang(1, 10, 22);
        is("22", x.covered(0), 0);
        x.hang(1, 10, 0);
        is("0", x.covered(0), 0);
        x.hang(0, 10, 0);
        is("both in 0", x.covered(0), 2);
        x.hang(0, 10, 1);
        is("1", x.covered(0), 0);
    }

    private static void coveredByNoLessLoud() {
        sentence(9, "and is no less LOUD there");
        // The first one is 6 LOUD where its own one lives; the other hangs there, too.
        ApologyBells x = Due.laid("w0,10,3;w0,30,3;b0,4,0,12,0;m99,99;");
        int[] tin = {0, 1, 2};
        int[] covered = {0, 2, 2};
        for (int i = 0; i < tin.length; i++) {
            x.cast(1, 3, tin[i]);
            x.hang(1, 9, 0);
            is("5 LOUD and " + i, x.covered(0), covered[i]);
            x.melt(1);
        }
    }

    private static void coveredByOneAtLeast() {
        sentence(9, "is no less LOUD there (1 at least)");
        ApologyBells x = Due.laid("w0,10,3;w0,30,3;b0,1,0,40,0;b1,3,0,16,0;");
        is("0 LOUD both", x.covered(0), 0);
        x.hang(1, 15, 0);
        is("1 LOUD, and 0", x.covered(0), 2);
        x.hang(0, 11, 0);
        is("1 LOUD both", x.covered(0), 2);
        x.hang(0, 10, 0);
        is("1 LOUD, and 2", x.covered(0), 0);
    }

    private static void coveredByAllOthers() {
        sentence(9, "By which BELLS one is COVERED where whom it is for lives (bits)");
        ApologyBells x = Due.laid(SEVEN_AT_10 + "b0,1,0,10,0;b1,1,0,10,0;b2,1,0,10,0;b3,1,0,10,0;b4,1,0,10,0;b5,1,0,10,0;b6,1,0,10,0;");
        for (int w = 0; w < 7; w++) {
            is("all but " + w, x.covered(w), 127 - (1 << w));
        }
        ApologyBells y = Due.laid("w0,10,3;w0,20,3;b0,9,0,10,0;b1,2,0,18,0;");
        is("where its own one lives", y.covered(1), 1);
        is("not where the other's lives", y.covered(0), 0);
    }

    private static void coveredOnlyIfItHangs() {
        sentence(9, "(bits). BAD; NO: it does not hang");
        ApologyBells x = Due.laid("w0,10,3;w0,10,3;b1,9,0,10,0;");
        is("no BELL", x.covered(0), NO);
        x.cast(0, 9, 0);
        is("CAST", x.covered(0), NO);
        x.hang(0, 10, 0);
        is("HUNG", x.covered(0), 2);
        x.takeDown(0);
        is("TAKEN DOWN", x.covered(0), NO);
    }

    /** Whether one who lives at 20 hears a bell that is so loud there, from below and from above. */
    private static int heardAt(int kind, int tin, int loudThere, int days) {
        int far = 12 + tin - loudThere;
        int[] heard = new int[2];
        for (int side = 0; side < 2; side++) {
            int place = side == 0 ? 20 - far : 20 + far;
            ApologyBells x = Due.laid("w" + kind + ",20,20;b0,6," + tin + "," + place + ",0;");
            for (int day = 0; day < days; day++) {
                x.pass(1);
            }
            heard[side] = x.heard(0);
        }
        return heard[0] == heard[1] ? heard[0] : BAD;
    }

    private static void plainHears() {
        sentence(10, "A BELL that hangs SOUNDS to whom it is for, if it is 1 LOUD or more where that one lives");
        is("0", heardAt(0, 1, 0, 0), 0);
        is("1", heardAt(0, 1, 1, 0), 1);
        is("2", heardAt(0, 1, 2, 0), 1);
        is("1 on an odd DAY", heardAt(0, 1, 1, 1), 1);
    }

    private static void deafHears() {
        sentence(10, "to a DEAF one 8");
        is("0", heardAt(1, 1, 0, 0), 0);
        is("1", heardAt(1, 1, 1, 0), 0);
        is("7", heardAt(1, 1, 7, 0), 0);
        is("8", heardAt(1, 1, 8, 0), 1);
        is("9", heardAt(1, 1, 9, 0), 1);
        is("8 on an odd DAY", heardAt(1, 1, 8, 1), 1);
    }

    private static void graveHears() {
        sentence(10, "to a GRAVE one 1, but on even DAYS alone");
        is("0", heardAt(2, 1, 0, 0), 0);
        is("1", heardAt(2, 1, 1, 0), 1);
        is("1 on DAY 1", heardAt(2, 1, 1, 1), 0);
        is("all of it on DAY 1", heardAt(2, 1, 13, 1), 0);
        is("1 on DAY 2", heardAt(2, 1, 1, 2), 1);
        is("1 on DAY 3", heardAt(2, 1, 1, 3), 0);
        is("1 on DAY 4", heardAt(2, 1, 1, 4), 1);
    }

    private static void proudHears() {
        sentence(10, "to a PROUD one 1, if it has no TIN");
        is("0", heardAt(3, 0, 0, 0), 0);
        is("1", heardAt(3, 0, 1, 0), 1);
        is("1 on an odd DAY", heardAt(3, 0, 1, 1), 1);
        is("a TIN", heardAt(3, 1, 1, 0), 0);
        is("a TIN, all of it", heardAt(3, 1, 13, 0), 0);
        is("most TIN", Due.laid("w3,20,1;b0,30,30,20,0;").heard(0), 0);
    }

    private static void heardIfCoveredByNone() {
        sentence(10, "It is HEARD, if it SOUNDS, and is COVERED by none");
        ApologyBells x = Due.laid("w0,10,3;w0,10,3;b0,3,0,10,0;b1,3,0,10,0;");
        is("as LOUD", x.heard(0), 0);
        is("as LOUD, so neither", x.heard(1), 0);
        is("none on this DAY", x.count(7), 0);
        x.hang(1, 11, 0);
        is("louder", x.heard(0), 1);
        is("less LOUD", x.heard(1), 0);
        x.hang(1, 11, 1);
        is("in its own HOUR", x.heard(1), 1);
        is("both on this DAY", x.count(7), 2);
    }

    private static void coveredByWhatIsNotHeard() {
        sentence(10, "it is COVERED there by another BELL that hangs");
        // The second one does not sound: it has TIN; the third one neither: it is 7 LOUD.
        ApologyBells x = Due.laid("w0,10,3;w3,10,3;w1,10,3;b0,3,0,10,0;b1,3,1,10,0;");
        is("its BELL has TIN", x.heard(1), 0);
        is("it covers all the same", x.heard(0), 0);
        x.melt(1);
        x.cast(2, 3, 1);
        x.hang(2, 10, 0);
        is("it is too low", x.heard(2), 0);
        is("it covers all the same", x.heard(0), 0);
    }

    private static void heardOnlyIfItHangs() {
        sentence(10, "1 if it is HEARD on this DAY, 0. BAD; NO: it does not hang");
        ApologyBells x = Due.laid("w0,10,1;");
        is("no BELL", x.heard(0), NO);
        x.cast(0, 9, 0);
        is("CAST", x.heard(0), NO);
        x.hang(0, 10, 0);
        is("HUNG", x.heard(0), 1);
        x.takeDown(0);
        is("TAKEN DOWN", x.heard(0), NO);
        x.hang(0, 10, 0);
        x.pass(1);
        is("FORGIVEN, so MELTED", x.heard(0), NO);
    }
}
