import java.util.ArrayList;
import java.util.Arrays;
import java.util.List;
import java.util.function.Supplier;
import java.util.function.ToIntFunction;

/** By a refused call nothing changes, nor by a question: a twin that is not called answers the same behind it. */
final class NothingChangesTest extends Edges {
    private static final String STREET = "w0,5,2;w3,20,9;w2,30,1;m9,9;b0,3,0,5,0;b2,2,0,30,1;";

    public static void main(String[] args) {
        sentence(1, "Of several the first in this order, whatever the order at a call; nothing changes then");
        refusedTexts();
        refusedQuestionsOfTheStreet();
        refusedActs();
        refusedQuestionsOfWhatComes();
        refusedNotesAndYears();
        refusedWhenFull();
        refusedWhenNew();
        sentence(17, "Nothing else being done");
        questions();
        end();
    }

    /** One FORGIVEN, one with a BELL that does not hang, one whose BELL hangs; a thing of each sort done. */
    private static ApologyBells busy() {
        ApologyBells x = Due.laid(STREET);
        x.pass(1);
        x.keep();
        x.cast(1, 2, 1);
        x.note(5, 6);
        x.write('w');
        return x;
    }

    private static ApologyBells full() {
        ApologyBells x = Due.laid(STREET);
        for (int i = STREET.length(); i < 200; i++) {
            x.write('w');
        }
        for (int i = 0; i < 9; i++) {
            x.note(5, 6);
            x.keep();
            x.hang(0, i, i);
        }
        return x;
    }

    private static void refused(String call, int want, ToIntFunction<ApologyBells> asked) {
        same(call, want, asked, NothingChangesTest::busy);
    }

    private static void same(String call, int want, ToIntFunction<ApologyBells> asked, Supplier<ApologyBells> made) {
        ApologyBells called = made.get();
        is(call, asked.applyAsInt(called), want);
        unchanged(call, called, made.get());
    }

    private static void unchanged(String call, ApologyBells called, ApologyBells twin) {
        is(call + " changes nothing", all(called).equals(all(twin)) ? 1 : 0, 1);
    }

    /** All that can be seen of it, now, as each thing is UNDONE, as KEPT and as LAID anew: some 210 calls. */
    private static List<Integer> all(ApologyBells x) {
        List<Integer> seen = new ArrayList<>();
        for (int what = 0; what <= 11; what++) {
            seen.add(x.count(what));
        }
        for (int w = 0; w < 3; w++) {
            for (int what = 0; what <= 5; what++) {
                seen.add(x.wrong(w, what));
                seen.add(x.bell(w, what));
            }
        }
        seen.add(x.which());
        seen.add(x.fault());
        for (int left = 1; left > 0; seen.add(left)) {
            left = x.undo();
            addState(x, seen);
        }
        for (int left = 1; left > 0; seen.add(left)) {
            left = x.back();
            addState(x, seen);
        }
        seen.add(x.lay());
        addState(x, seen);
        return seen;
    }

    private static void addState(ApologyBells x, List<Integer> seen) {
        seen.add(x.count(1));
        seen.add(x.count(2));
        for (int w = 0; w < 3; w++) {
            seen.add(x.wrong(w, 3));
            seen.add(x.bell(w, 2));
        }
    }

    private static void refusedTexts() {
        refused("write(31)", BAD, x -> x.write(31));
        refused("write(127)", BAD, x -> x.write(127));
        refused("lay() with a FAULT", NO, x -> x.lay());
        Supplier<ApologyBells> wiped = () -> {
            ApologyBells x = busy();
            x.wipe();
            return x;
        };
        same("lay() of nothing", NO, x -> x.lay(), wiped);
        same("fault() of nothing", NONE, x -> x.fault(), wiped);
        Supplier<ApologyBells> store = () -> {
            ApologyBells x = wiped.get();
            Due.write(x, "m3,3;");
            return x;
        };
        same("lay() without a WRONG", NO, x -> x.lay(), store);
        Supplier<ApologyBells> late = () -> {
            ApologyBells x = wiped.get();
            Due.write(x, "w1,1,1;m3,3;b0,9,9,9,9;w1,1,1;w1,1,1;w1,1,1;b7,1,1,1,1;");
            return x;
        };
        same("lay() with a FAULT at the end", NO, x -> x.lay(), late);
    }

    private static void refusedQuestionsOfTheStreet() {
        for (int w : new int[] {-1, 3, 7, LEAST, MOST}) {
            refused("wrong of " + w, BAD, x -> x.wrong(w, 0));
            refused("bell of " + w, BAD, x -> x.bell(w, 0));
            refused("loud of " + w, BAD, x -> x.loud(w, 0));
            refused("covered of " + w, BAD, x -> x.covered(w));
            refused("heard of " + w, BAD, x -> x.heard(w));
        }
        for (int what : new int[] {-1, 6}) {
            refused("wrong, " + what, BAD, x -> x.wrong(0, what));
            refused("bell, " + what, BAD, x -> x.bell(0, what));
            refused("BAD ahead of NONE, " + what, BAD, x -> x.bell(2, what));
        }
        refused("bell that is none", NONE, x -> x.bell(2, 0));
        refused("bell's PLACE that does not hang", NONE, x -> x.bell(1, 2));
        refused("loud below", BAD, x -> x.loud(0, -1));
        refused("loud above", BAD, x -> x.loud(0, 41));
        for (int w : new int[] {1, 2}) {
            refused("loud of one that does not hang", NO, x -> x.loud(w, 0));
            refused("covered of one that does not hang", NO, x -> x.covered(w));
            refused("heard of one that does not hang", NO, x -> x.heard(w));
        }
    }

    private static void refusedActs() {
        for (int w : new int[] {-1, 3, 7, LEAST, MOST}) {
            refused("cast for " + w, BAD, x -> x.cast(w, 1, 0));
            refused("hang for " + w, BAD, x -> x.hang(w, 0, 0));
            refused("takeDown for " + w, BAD, x -> x.takeDown(w));
            refused("melt for " + w, BAD, x -> x.melt(w));
        }
        for (int c : new int[] {0, 31, -1}) {
            refused("cast of COPPER " + c, BAD, x -> x.cast(0, c, 0));
        }
        for (int t : new int[] {-1, 31}) {
            refused("cast of TIN " + t, BAD, x -> x.cast(0, 1, t));
        }
        refused("cast for one that has a BELL", NO, x -> x.cast(0, 1, 0));
        refused("cast for one whose BELL does not hang", NO, x -> x.cast(1, 1, 0));
        refused("cast for one that is FORGIVEN", NO, x -> x.cast(2, 1, 0));
        Supplier<ApologyBells> melted = () -> {
            ApologyBells x = busy();
            x.melt(1);
            return x;
        };
        same("cast of more COPPER than there is", NO, x -> x.cast(1, 12, 0), melted);
        same("cast of more TIN than there is", NO, x -> x.cast(1, 1, 10), melted);
        for (int p : new int[] {-1, 41}) {
            refused("hang at " + p, BAD, x -> x.hang(0, p, 0));
        }
        for (int h : new int[] {-1, 24}) {
            refused("hang in HOUR " + h, BAD, x -> x.hang(0, 0, h));
        }
        refused("hang without a BELL", NO, x -> x.hang(2, 0, 0));
        refused("takeDown without a BELL", NO, x -> x.takeDown(2));
        refused("takeDown of one that does not hang", NO, x -> x.takeDown(1));
        refused("melt without a BELL", NO, x -> x.melt(2));
        for (int n : new int[] {0, 25, -1, LEAST, MOST}) {
            refused("pass of " + n, BAD, x -> x.pass(n));
        }
    }

    private static void refusedQuestionsOfWhatComes() {
        for (int w : new int[] {-1, 3, 7, LEAST, MOST}) {
            refused("forgives of " + w, BAD, x -> x.forgives(w));
            refused("cheap for " + w, BAD, x -> x.cheap(w, 0, 0));
            refused("best for " + w, BAD, x -> x.best(w, 0));
            refused("hush for " + w, BAD, x -> x.hush(w));
        }
        refused("forgives of none", NONE, x -> x.forgives(1));
        refused("by below", BAD, x -> x.by(-1));
        refused("by above", BAD, x -> x.by(61));
        refused("cheap at a PLACE below", BAD, x -> x.cheap(0, -1, 0));
        refused("cheap at a PLACE above", BAD, x -> x.cheap(0, 41, 0));
        refused("cheap in an HOUR below", BAD, x -> x.cheap(0, 0, -1));
        refused("cheap in an HOUR above", BAD, x -> x.cheap(0, 0, 24));
        refused("cheap for one that is FORGIVEN", NO, x -> x.cheap(2, 0, 0));
        refused("best, what below", BAD, x -> x.best(0, -1));
        refused("best, what above", BAD, x -> x.best(0, 3));
        refused("best without a BELL", NO, x -> x.best(2, 0));
        refused("best that is none", NONE, x -> x.best(1, 0));
        refused("hours below", BAD, x -> x.hours(-2));
        refused("hours above", BAD, x -> x.hours(3));
        refused("hours of one that does not hang", NONE, x -> x.hours(1));
        refused("hush without a BELL", NO, x -> x.hush(2));
        refused("hush of one that does not hang", NO, x -> x.hush(1));
        Supplier<ApologyBells> hung = () -> {
            ApologyBells x = busy();
            x.hang(1, 20, 0);
            return x;
        };
        same("hush that is none", NONE, x -> x.hush(1), hung);
    }

    private static void refusedNotesAndYears() {
        refused("note at a PLACE below", BAD, x -> x.note(-1, 0));
        refused("note at a PLACE above", BAD, x -> x.note(41, 0));
        refused("note of less", BAD, x -> x.note(0, -1));
        refused("note of more", BAD, x -> x.note(0, 100));
        refused("casts below", BAD, x -> x.casts(-1, 0));
        refused("casts above", BAD, x -> x.casts(100, 0));
        refused("casts, what below", BAD, x -> x.casts(0, -1));
        refused("casts, what above", BAD, x -> x.casts(0, 2));
        refused("casts of none", NONE, x -> x.casts(0, 1));
        int[][] snows = {{-1, 1, 1, 0}, {3, 1, 1, 0}, {0, -1, 1, 0}, {0, 9, 1, 0}, {0, 1, -1, 0}, {0, 1, 11, 0}, {0, 1, 1, -1}, {0, 1, 1, 2}};
        for (int[] a : snows) {
            refused("snow " + Arrays.toString(a), BAD, x -> x.snow(a[0], a[1], a[2], a[3]));
        }
        int[][] years = {{-1, 1, 0}, {10000, 1, 0}, {0, 0, 0}, {0, 61, 0}, {0, 1, -1}, {0, 1, 2}};
        for (int[] a : years) {
            refused("year " + Arrays.toString(a), BAD, x -> x.year(a[0], a[1], a[2]));
        }
        refused("count below", BAD, x -> x.count(-1));
        refused("count above", BAD, x -> x.count(12));
    }

    private static void refusedWhenFull() {
        same("write when it is FULL", FULL, x -> x.write('w'), NothingChangesTest::full);
        same("write, BAD ahead of FULL", BAD, x -> x.write(31), NothingChangesTest::full);
        same("note when it is FULL", FULL, x -> x.note(0, 0), NothingChangesTest::full);
        same("note, BAD ahead of FULL", BAD, x -> x.note(41, 0), NothingChangesTest::full);
        same("keep when it is FULL", FULL, x -> x.keep(), NothingChangesTest::full);
        same("hang that is refused, when no more can be UNDONE", BAD, x -> x.hang(0, 41, 0), NothingChangesTest::full);
        same("pass that is refused, when no more can be UNDONE", BAD, x -> x.pass(25), NothingChangesTest::full);
        same("melt that is refused, when no more can be UNDONE", NO, x -> x.melt(1), NothingChangesTest::full);
    }

    private static void refusedWhenNew() {
        same("undo of nothing", NO, x -> x.undo(), ApologyBells::new);
        same("back to nothing", NO, x -> x.back(), ApologyBells::new);
        same("lay of nothing", NO, x -> x.lay(), ApologyBells::new);
        same("forget of nothing", 0, x -> x.forget(), ApologyBells::new);
        same("wipe of nothing", 0, x -> x.wipe(), ApologyBells::new);
    }

    private static void questions() {
        List<ToIntFunction<ApologyBells>> asked = List.of(x -> x.fault(), x -> x.wrong(0, 3), x -> x.bell(0, 4), x -> x.loud(0, 40),
            x -> x.covered(0), x -> x.heard(0), x -> x.forgives(0), x -> x.by(0), x -> x.by(60), x -> x.cheap(0, 40, 23),
            x -> x.cheap(1, 0, 0), x -> x.best(0, 0), x -> x.best(1, 2), x -> x.hours(-1), x -> x.hours(0), x -> x.hush(0),
            x -> x.which(), x -> x.casts(99, 0), x -> x.casts(90, 1), x -> x.snow(0, 8, 0, 0), x -> x.snow(0, 8, 10, 1),
            x -> x.snow(0, 8, 5, 0), x -> x.year(0, 1, 0), x -> x.year(9999, 60, 1), x -> x.count(7));
        for (int i = 0; i < asked.size(); i++) {
            ApologyBells called = busy();
            int first = asked.get(i).applyAsInt(called);
            is("question " + i + " again", asked.get(i).applyAsInt(called), first);
            unchanged("question " + i, called, busy());
        }
        ApologyBells called = busy();
        for (ToIntFunction<ApologyBells> question : asked) {
            question.applyAsInt(called);
        }
        unchanged("all of them", called, busy());
    }
}
