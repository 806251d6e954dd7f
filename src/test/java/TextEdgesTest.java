/** The edges that the document names for a new object, write, wipe, fault and lay (promises 1 to 5). */
final class TextEdgesTest extends Edges {
    private static final String ONE = "w0,1,1;";
    private static final String SEVEN = ONE.repeat(7);
    /** 168 letters without a fault. */
    private static final String LONG = "w0,10,10;".repeat(7) + "b0,10,10,10,10;b1,10,10,10,10;b2,10,10,10,10;b3,10,10,10,10;"
        + "b4,10,10,10,10;b5,10,10,10,10;b6,10,10,10,10;";

    public static void main(String[] args) {
        emptyAtFirst();
        nothingAtFirst();
        laidAtFirst();
        lettersThereAre();
        lettersAtMost();
        lettersAtMostAreRead();
        wiped();
        noFaultInNothing();
        itemsBeginWithALetter();
        numbersOfOneOrTwoFigures();
        numbersParted();
        itemsEnded();
        kinds();
        livingPlaces();
        timesHeard();
        sevenWrongs();
        metalInStore();
        storeWithout();
        lastStoreCounts();
        bellForAWrongToldAhead();
        bellForAWrongWithoutOne();
        bellCopper();
        bellTin();
        bellNotOutOfTheStore();
        bellPlace();
        bellHour();
        firstOfSeveralFaults();
        notLaidWithFault();
        notLaidWithoutAWrong();
        laidWithOneAndSeven();
        nothingLeftBehindLay();
        nothingOfALongerStreetIsLeft();
        nothingOfWhatComesIsLeft();
        textStays();
        end();
    }

    /** The item is without fault behind one wrong. */
    private static void fine(String item) {
        is("fault behind a wrong with " + item, Due.written(ONE + item).fault(), NONE);
    }

    /** The item is the first fault, at the beginning and behind one wrong. */
    private static void faulty(String item) {
        is("fault with " + item, Due.written(item).fault(), 0);
        is("fault behind a wrong with " + item, Due.written(ONE + item).fault(), ONE.length());
    }

    private static void emptyAtFirst() {
        sentence(1, "THE TEXT is empty");
        is("count(11)", new ApologyBells().count(11), 0);
        is("wipe()", new ApologyBells().wipe(), 0);
        is("fault()", new ApologyBells().fault(), NONE);
        is("lay()", new ApologyBells().lay(), NO);
        is("the first letter", new ApologyBells().write('w'), 1);
    }

    private static void nothingAtFirst() {
        sentence(1, "At first nothing is HEARD, FORGIVEN, it is DAY 0");
        ApologyBells x = new ApologyBells();
        for (int w = 0; w < 6; w++) {
            is("HEARD " + w, x.wrong(w, 3), 0);
            is("FORGIVEN " + w, x.wrong(w, 4), 0);
        }
        is("DAY", x.count(1), 0);
        is("FORGIVEN", x.count(6), 0);
        is("NOTED", x.count(8), 0);
        is("UNDONE", x.undo(), NO);
        is("KEPT", x.back(), NO);
    }

    private static void laidAtFirst() {
        String first = "w0,5,3;w1,12,2;w2,20,4;w3,8,2;w0,30,6;w0,14,1;m25,12;b0,4,2,9,8;b1,9,1,12,12;b2,6,3,25,8;b5,2,5,14,12;";
        sentence(1, "at first " + first);
        ApologyBells x = new ApologyBells();
        ApologyBells y = Due.laid(first);
        for (int what = 0; what <= 10; what++) {
            is("count " + what, x.count(what), y.count(what));
        }
        for (int w = 0; w <= 6; w++) {
            for (int what = 0; what <= 5; what++) {
                is("wrong " + w + ", " + what, x.wrong(w, what), y.wrong(w, what));
                is("bell " + w + ", " + what, x.bell(w, what), y.bell(w, what));
            }
        }
        is("such as there are", x.wrong(6, 0), BAD);
    }

    private static void lettersThereAre() {
        sentence(2, "A letter (32 to 126, as in ASCII) comes behind THE TEXT");
        ApologyBells x = new ApologyBells();
        onlyWithin("write", 32, 126, x::write);
        is("what was BAD is not written", x.count(11), 2);
        is("0", x.write(0), BAD);
        is("-1", x.write(-1), BAD);
        is("line feed", x.write(10), BAD);
        is("w and 65536", x.write('w' + 65536), BAD);
    }

    private static void lettersAtMost() {
        sentence(2, "A TEXT is letters (200 at most)");
        ApologyBells x = Due.written("w".repeat(199));
        is("the 200th", x.write('w'), 200);
        is("the 201st", x.write('w'), FULL);
        is("the 201st again", x.write(32), FULL);
        is("BAD ahead of FULL", x.write(31), BAD);
        is("BAD ahead of FULL", x.write(127), BAD);
        is("none is more", x.count(11), 200);
        x.wipe();
        Due.write(x, "m".repeat(199));
        is("the 200th behind a wipe", x.write('m'), 200);
        is("the 201st behind a wipe", x.write('m'), FULL);
    }

    private static void lettersAtMostAreRead() {
        sentence(2, "A TEXT is letters (200 at most)");
        ApologyBells x = Due.written(LONG + "m11,11;m22,22;m3,33;m4,44;m5,55;");
        is("all 200 are told", x.fault(), NONE);
        is("FULL behind them", x.write('w'), FULL);
        is("all 200 are LAID", x.lay(), 7);
        is("the last item counts", x.count(2), 5);
        is("the last item counts", x.count(3), 55);
        ApologyBells y = Due.written(LONG + "m11,11;m22,22;m3,33;m4,44;m5,555");
        is("the last one is not whole", y.fault(), 194);
        is("FULL, so it never will be", y.write(';'), FULL);
        is("it is not LAID", y.lay(), NO);
        is("the 200th letter alone", Due.written(LONG + "m11,11;m3,33;m4,44;m5,55;m6,66;w").fault(), 199);
    }

    private static void wiped() {
        sentence(3, "THE TEXT is empty: how long it was");
        ApologyBells x = new ApologyBells();
        is("an empty one", x.wipe(), 0);
        x.write('w');
        is("one letter", x.wipe(), 1);
        is("it is empty", x.wipe(), 0);
        Due.write(x, "w".repeat(200));
        is("a full one", x.wipe(), 200);
        is("it is empty", x.count(11), 0);
        is("no FAULT of what was wiped", x.fault(), NONE);
        is("nothing is LAID of what was wiped", x.lay(), NO);
        is("what is LAID stays", x.count(0), 6);
    }

    private static void noFaultInNothing() {
        sentence(4, "FAULT. NONE.");
        is("an empty one", Due.written("").fault(), NONE);
        is("one item", Due.written(ONE).fault(), NONE);
        is("without a WRONG", Due.written("m1,1;").fault(), NONE);
        is("the first letter", Due.written("x").fault(), 0);
    }

    private static void itemsBeginWithALetter() {
        sentence(4, "ITEMS one behind the other, each a letter");
        for (String letter : new String[] {"W", "M", "B", "x", "a", "v", "l", "n", "c", "~", " ", "0", "9", ",", ";", "w", "m", "b", "ww"}) {
            faulty(letter);
            faulty(letter + (letter.length() == 1 && "wm".contains(letter) ? "1,1,1,1;" : "0,1;"));
        }
        faulty(" " + ONE);
        faulty(";" + ONE);
        faulty("," + ONE);
        faulty("0,1,1;");
    }

    private static void numbersOfOneOrTwoFigures() {
        sentence(4, "then numbers (one or two figures)");
        fine("w0,1,1;");
        fine("w00,01,01;");
        fine("w3,40,20;");
        fine("m0,0;");
        fine("m99,99;");
        fine("b00,01,00,00,00;");
        String[] none = {"w,1,1;", "w0,,1;", "w0,1,;", "w;", "w,,;", "m,1;", "m1,;", "b,1,1,1,1;", "b0,,1,1,1;", "b0,1,,1,1;", "b0,1,1,,1;", "b0,1,1,1,;"};
        String[] three = {"w000,1,1;", "w0,001,1;", "w0,1,001;", "m100,1;", "m001,1;", "m1,001;", "b000,1,1,1,1;", "b0,001,1,1,1;",
            "b0,1,001,1,1;", "b0,1,1,001,1;", "b0,1,1,1,001;"};
        String[] notFigures = {"w/,1,1;", "w:,1,1;", "w0,/,1;", "w0,:,1;", "w0,1,1/;", "w0,1,1:;", "w-0,1,1;", "w+0,1,1;", "w 0,1,1;", "w0 ,1,1;", "w0,1,1 ;",
            "m1a,1;", "m1,1.;"};
        for (String[] items : new String[][] {none, three, notFigures}) {
            for (String item : items) {
                faulty(item);
            }
        }
    }

    private static void numbersParted() {
        sentence(4, "parted by ,");
        for (String item : new String[] {"w0;1;1;", "w0;1,1;", "w0,1;1;", "w0.1,1;", "w0-1,1;", "w0 1,1;", "w0,,1,1;", "w,0,1,1;", "m1;1;", "m1.1;", "m11;", "w011;"}) {
            faulty(item);
        }
    }

    private static void itemsEnded() {
        sentence(4, "and a ; behind the last one");
        String[] ended = {"w0,1,1", "w0,1,", "w0,1", "w0,", "w0", "w", "m1,1", "m1,", "m1", "m", "b0,1,1,1,1", "b0,1,1,1,", "b"};
        String[] tooFew = {"w0,1;", "w0;", "m1;", "b0,1,1,1;", "b0,1,1;"};
        String[] tooMany = {"w0,1,1,1;", "w0,1,1,;", "m1,1,1;", "m1,1,;", "w0,1,1,", "w0,1,1:"};
        for (String[] items : new String[][] {ended, tooFew, tooMany}) {
            for (String item : items) {
                faulty(item);
            }
        }
        is("a number too many", Due.written(ONE + "b0,1,1,1,1,1;").fault(), 7);
        is("a ; too many", Due.written(ONE + ";").fault(), 7);
        ApologyBells x = Due.written("w0,1,1");
        is("not yet", x.fault(), 0);
        x.write(';');
        is("now", x.fault(), NONE);
    }

    private static void kinds() {
        sentence(4, "KIND K (0 PLAIN, 1 DEAF, 2 GRAVE, 3 PROUD)");
        for (int kind = 0; kind <= 3; kind++) {
            fine("w" + kind + ",1,1;");
            is("told", Due.laid("w" + kind + ",1,1;").wrong(0, 0), kind);
        }
        faulty("w4,1,1;");
        faulty("w9,1,1;");
        faulty("w10,1,1;");
        faulty("w99,1,1;");
    }

    private static void livingPlaces() {
        sentence(4, "who lives at PLACE X (0 to 40)");
        is("0", Due.laid("w0,0,1;").wrong(0, 1), 0);
        is("40", Due.laid("w0,40,1;").wrong(0, 1), 40);
        faulty("w0,41,1;");
        faulty("w0,99,1;");
    }

    private static void timesHeard() {
        sentence(4, "to be HEARD N (1 to 20) times");
        is("1", Due.laid("w0,1,1;").wrong(0, 2), 1);
        is("20", Due.laid("w0,1,20;").wrong(0, 2), 20);
        faulty("w0,1,0;");
        faulty("w0,1,00;");
        faulty("w0,1,21;");
        faulty("w0,1,99;");
    }

    private static void sevenWrongs() {
        sentence(4, "7 at most, 0, 1, ..");
        is("seven", Due.written(SEVEN).fault(), NONE);
        is("the eighth", Due.written(SEVEN + ONE).fault(), 49);
        is("the eighth behind other items", Due.written(SEVEN + "m1,1;b6,1,1,1,1;" + ONE).fault(), 65);
        is("the eighth is not LAID", Due.written(SEVEN + ONE).lay(), NO);
        is("a bell for the seventh", Due.written(SEVEN + "b6,1,1,1,1;").fault(), NONE);
        ApologyBells x = Due.laid("w0,9,1;w1,8,1;w2,7,1;w3,6,1;w0,5,1;w1,4,1;w2,3,1;");
        for (int w = 0; w < 7; w++) {
            is("numbered as told, " + w, x.wrong(w, 1), 9 - w);
        }
    }

    private static void metalInStore() {
        sentence(4, "mC,T there are C of COPPER, T of TIN (0 to 99 each) in store");
        ApologyBells x = Due.laid(ONE + "m0,0;");
        is("no COPPER", x.count(2), 0);
        is("no TIN", x.count(3), 0);
        ApologyBells y = Due.laid(ONE + "m99,98;");
        is("99 of COPPER", y.count(2), 99);
        is("98 of TIN", y.count(3), 98);
        is("99 of TIN", Due.laid(ONE + "m98,99;").count(3), 99);
        faulty("m100,0;");
        faulty("m0,100;");
        faulty("m-1,0;");
        faulty("m0,-1;");
    }

    private static void storeWithout() {
        sentence(5, "(20, 10 without");
        ApologyBells x = Due.laid("m1,2;" + ONE);
        x.wipe();
        Due.write(x, ONE);
        x.lay();
        is("COPPER", x.count(2), 20);
        is("TIN", x.count(3), 10);
    }

    private static void lastStoreCounts() {
        sentence(5, "of several such the last one counts");
        ApologyBells x = Due.laid("m1,2;m3,4;" + ONE + "m5,6;b0,1,1,1,1;");
        is("COPPER", x.count(2), 5);
        is("TIN", x.count(3), 6);
        ApologyBells y = Due.laid("m50,60;" + ONE + "m0,0;");
        is("COPPER, though it is none", y.count(2), 0);
        is("TIN, though it is none", y.count(3), 0);
    }

    private static void bellForAWrongToldAhead() {
        sentence(4, "a BELL for WRONG W (told ahead");
        is("told behind", Due.written("b0,1,1,1,1;" + ONE).fault(), 0);
        is("told behind", Due.written(ONE + "b1,1,1,1,1;" + ONE).fault(), 7);
        is("told ahead", Due.written(ONE + ONE + "b1,1,1,1,1;").fault(), NONE);
        is("not such as there are", Due.written(ONE + "b7,1,1,1,1;").fault(), 7);
        is("not such as there are", Due.written(SEVEN + "b7,1,1,1,1;").fault(), 49);
        is("not such as there are", Due.written(SEVEN + "b99,1,1,1,1;").fault(), 49);
    }

    private static void bellForAWrongWithoutOne() {
        sentence(4, "WRONG W (told ahead, without one)");
        is("a second one", Due.written(ONE + "b0,1,1,1,1;b0,1,1,1,1;").fault(), 18);
        is("a second one behind others", Due.written(ONE + ONE + "b0,1,1,1,1;m1,1;b1,1,1,1,1;b0,2,1,1,1;").fault(), 41);
        ApologyBells x = Due.laid(ONE + "b0,1,1,1,1;");
        is("that of the street that is LAID is none", x.fault(), NONE);
        is("so it is LAID again", x.lay(), 1);
    }

    private static void bellCopper() {
        sentence(4, "of C (1 to 30) of COPPER");
        is("1", Due.laid(ONE + "b0,1,2,3,4;").bell(0, 0), 1);
        is("30", Due.laid(ONE + "b0,30,2,3,4;").bell(0, 0), 30);
        faulty("b0,0,2,3,4;");
        faulty("b0,31,2,3,4;");
        faulty("b0,99,2,3,4;");
    }

    private static void bellTin() {
        sentence(4, "T (0 to 30) of TIN (not out of the store)");
        is("0", Due.laid(ONE + "b0,1,0,3,4;").bell(0, 1), 0);
        is("30", Due.laid(ONE + "b0,1,30,3,4;").bell(0, 1), 30);
        faulty("b0,1,31,3,4;");
        faulty("b0,1,99,3,4;");
    }

    private static void bellNotOutOfTheStore() {
        sentence(5, "(not out of the store)");
        ApologyBells x = Due.laid(ONE + "m0,0;b0,30,30,1,1;");
        is("COPPER in store", x.count(2), 0);
        is("TIN in store", x.count(3), 0);
        is("COPPER of the BELL", x.bell(0, 0), 30);
        is("TIN of the BELL", x.bell(0, 1), 30);
    }

    private static void bellPlace() {
        sentence(4, "that hangs at PLACE P (0 to 40)");
        is("0", Due.laid(ONE + "b0,1,2,0,4;").bell(0, 2), 0);
        is("40", Due.laid(ONE + "b0,1,2,40,4;").bell(0, 2), 40);
        faulty("b0,1,2,41,4;");
        faulty("b0,1,2,99,4;");
    }

    private static void bellHour() {
        sentence(4, "rings in HOUR H (0 to 23)");
        is("0", Due.laid(ONE + "b0,1,2,3,0;").bell(0, 3), 0);
        is("23", Due.laid(ONE + "b0,1,2,3,23;").bell(0, 3), 23);
        faulty("b0,1,2,3,24;");
        faulty("b0,1,2,3,99;");
    }

    private static void firstOfSeveralFaults() {
        sentence(4, "FAULT: the place (from 0 on) of the first letter of the first ITEM that is not so");
        is("at 0", Due.written("w9,1,1;m1;b0;").fault(), 0);
        is("the first of several", Due.written(ONE + "m1;w9,1,1;x").fault(), 7);
        is("the ITEM's first letter, not the one that is not so", Due.written(ONE + "b0,10,10,10,24;").fault(), 7);
        is("what would be so by a later ITEM", Due.written(ONE + "b1,1,1,1,1;" + ONE + "b1,1,1,1,1;").fault(), 7);
        is("letters that are no ITEM", Due.written(ONE + ONE + "w0,1,1 ").fault(), 14);
    }

    private static void notLaidWithFault() {
        sentence(5, "LAID is a TEXT without FAULT");
        for (String text : new String[] {"w0,1,1", "w0,1,1;x", "x" + ONE, SEVEN + ONE, ONE + "b0,1,1,1,24;"}) {
            ApologyBells x = Due.written(text);
            is("lay of " + text, x.lay(), NO);
            is("the street is the first one still", x.count(0), 6);
        }
    }

    private static void notLaidWithoutAWrong() {
        sentence(5, "of a WRONG at least (NO else");
        for (String text : new String[] {"", "m1,1;", "m1,1;m2,2;"}) {
            ApologyBells x = Due.written(text);
            is("no FAULT in " + text, x.fault(), NONE);
            is("lay of " + text, x.lay(), NO);
            is("the store is the first one still", x.count(2), 25);
        }
    }

    private static void laidWithOneAndSeven() {
        sentence(5, "LAID: how many WRONGS");
        for (int many = 1; many <= 7; many++) {
            ApologyBells x = Due.written(ONE.repeat(many));
            is("lay of " + many, x.lay(), many);
            is("the last one is there", x.wrong(many - 1, 1), 1);
            is("one more is not", x.wrong(many, 1), BAD);
        }
    }

    private static void nothingLeftBehindLay() {
        sentence(5, "nothing NOTED, UNDONE, KEPT; THE TEXT stays");
        ApologyBells x = Due.written(ONE + ONE);
        for (int round = 0; round < 2; round++) {
            for (int i = 1; i <= 8; i++) {
                x.pass(1);
            }
            for (int i = 1; i <= 6; i++) {
                is("NOTED up to the full", x.note(0, 0), i);
            }
            is("KEPT", x.keep(), 1);
            is("KEPT up to the full", x.keep(), 2);
            is("lay", x.lay(), 2);
            are("count", x::count, 2, 0, 20, 10, 0, 0, 0, 0, 0, 0, 0, 14);
            is("nothing NOTED", x.forget(), 0);
            is("nothing UNDONE", x.undo(), NO);
            is("nothing KEPT", x.back(), NO);
        }
    }

    private static void nothingOfALongerStreetIsLeft() {
        sentence(5, "At first nothing is HEARD, FORGIVEN, it is DAY 0");
        ApologyBells x = Due.laid("w0,1,2;w0,20,1;b0,9,0,1,0;b1,9,0,20,0;");
        x.pass(1);
        is("HEARD", x.wrong(0, 3), 1);
        is("FORGIVEN", x.wrong(1, 4), 1);
        for (String text : new String[] {ONE, ONE + ONE}) {
            x.wipe();
            Due.write(x, text);
            x.lay();
        }
        are("the first one", what -> x.wrong(0, what), 0, 1, 1, 0, 0, 0);
        are("the second one", what -> x.wrong(1, what), 0, 1, 1, 0, 0, 0);
        is("no BELL", x.bell(0, 0), NONE);
        is("no BELL", x.bell(1, 0), NONE);
        is("DAY", x.count(1), 0);
    }

    private static void nothingOfWhatComesIsLeft() {
        sentence(5, "At first nothing is HEARD, FORGIVEN, it is DAY 0");
        ApologyBells x = Due.laid("w0,1,2;w0,20,20;b0,9,0,1,0;b1,9,0,20,0;");
        is("FORGIVEN behind three DAYS", x.by(3), 1);
        x.lay();
        are("the first one", what -> x.wrong(0, what), 0, 1, 2, 0, 0, 2);
        are("the second one", what -> x.wrong(1, what), 0, 20, 20, 0, 0, 2);
        is("DAY", x.count(1), 0);
    }

    private static void textStays() {
        sentence(5, "THE TEXT stays");
        ApologyBells x = Due.written(ONE);
        x.lay();
        is("as long as it was", x.count(11), 7);
        is("without FAULT", x.fault(), NONE);
        is("a letter comes behind it", x.write('w'), 8);
        is("so there is a FAULT", x.fault(), 7);
        is("NO", x.lay(), NO);
        is("it stays then, too", x.wipe(), 8);
    }
}
