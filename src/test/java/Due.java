/** Counts the answers that are not the ones due, and makes streets for the tests. */
final class Due {
    private int wrong;

    void is(String call, int got, int want) {
        if (got != want) {
            wrong++;
            System.out.println(call + " answered " + got + ", due is " + want);
        }
    }

    /** The numbers 'what' of one call, from 0 on. */
    interface Asked {
        int answer(int what);
    }

    void are(String call, Asked asked, int... want) {
        for (int what = 0; what < want.length; what++) {
            is(call + " with " + what, asked.answer(what), want[what]);
        }
    }

    void end() {
        System.out.println(wrong == 0 ? "all answers are as due" : wrong + " answers are not as due");
        if (wrong != 0) {
            System.exit(1);
        }
    }

    static void write(ApologyBells bells, String text) {
        for (int i = 0; i < text.length(); i++) {
            bells.write(text.charAt(i));
        }
    }

    static ApologyBells written(String text) {
        ApologyBells bells = new ApologyBells();
        write(bells, text);
        return bells;
    }

    static ApologyBells laid(String text) {
        ApologyBells bells = written(text);
        if (bells.lay() < 1) {
            throw new IllegalArgumentException("the test's own text has a fault: " + text);
        }
        return bells;
    }
}
