import java.io.IOException;
import java.io.UncheckedIOException;
import java.nio.file.Files;
import java.nio.file.Path;
import java.util.function.IntUnaryOperator;

/** What the tests of the document's edges share: each check stands under the sentence that it holds to. */
abstract class Edges {
    static final int BAD = ApologyBells.BAD, NO = ApologyBells.NO, FULL = ApologyBells.FULL, NONE = ApologyBells.NONE;
    static final int LEAST = Integer.MIN_VALUE, MOST = Integer.MAX_VALUE;

    private static final String DOCUMENT = plain(read(Path.of("../shared/DOC.md")));
    private static final Due due = new Due();
    private static String heading = "";

    /** From here on the checks are of this promise and these words, which must stand in the document. */
    static void sentence(int promise, String words) {
        heading = promise + " '" + words + "': ";
        due.is(heading + "stands in the document", DOCUMENT.contains(plain(words)) ? 1 : 0, 1);
    }

    static void is(String call, int got, int want) {
        due.is(heading + call, got, want);
    }

    static void are(String call, Due.Asked asked, int... want) {
        due.are(heading + call, asked, want);
    }

    /** The call answers BAD just outside of least to most and far from there, and not so at both ends. */
    static void onlyWithin(String call, int least, int most, IntUnaryOperator asked) {
        for (int number : new int[] {least - 1, most + 1, LEAST, MOST, least - 256, most + 256, least + 65536}) {
            is(call + " with " + number, asked.applyAsInt(number), BAD);
        }
        for (int number : new int[] {least, most}) {
            is(call + " with " + number + " is BAD", asked.applyAsInt(number) == BAD ? 1 : 0, 0);
        }
    }

    static void end() {
        due.end();
    }

    private static String read(Path path) {
        try {
            return Files.readString(path);
        } catch (IOException e) {
            throw new UncheckedIOException(e);
        }
    }

    private static String plain(String words) {
        return words.replaceAll("\\s+", " ");
    }
}
