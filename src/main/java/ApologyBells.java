/** A foundry that casts apologies as bells, and the street in which they are heard. */
public final class ApologyBells {
    public static final int BAD = -1, NO = -2, FULL = -3, NONE = -4;

    private static final String FIRST_TEXT = "w0,5,3;w1,12,2;w2,20,4;w3,8,2;w0,30,6;w0,14,1;m25,12;b0,4,2,9,8;b1,9,1,12,12;b2,6,3,25,8;b5,2,5,14,12;";

    private static final int MOST_LETTERS = 200;
    private static final int MOST_WRONGS = 7;
    private static final int LAST_PLACE = 40;
    private static final int LAST_HOUR = 23;
    private static final int MOST_METAL = 30;
    private static final int MOST_HEARD = 20;
    private static final int FIRST_COPPER = 20;
    private static final int FIRST_TIN = 10;
    private static final int MOST_UNDONE = 8;
    private static final int MOST_KEPT = 2;
    private static final int MOST_NOTED = 6;
    private static final int MOST_NOTED_LOUD = 99;
    private static final int MOST_PASSED = 24;
    private static final int MOST_AHEAD = 60;
    private static final int MOST_SNOW = 8;
    private static final int LAST_YEAR = 9999;

    private static final int PLAIN = 0;
    private static final int DEAF = 1;
    private static final int GRAVE = 2;
    private static final int PROUD = 3;
    private static final int DEAF_HEARS = 8;

    private static final int WITHOUT_BELL = 0;
    private static final int LYING = 1;
    private static final int HANGING = 2;

    private final Text text = new Text();
    private final Notes notes = new Notes();
    private final HourPlan plan = new HourPlan();
    private final Street now = new Street();
    private final Street[] past = new Street[MOST_UNDONE];
    private final Street[] kept = new Street[MOST_KEPT];
    // One street for each day of snow and one ahead of them; the first also serves every other trial.
    private final Street[] trials = new Street[MOST_SNOW + 1];
    private int pastSize;
    private int keptSize;
    private int bestPlace;
    private int bestHour;
    private int bestOthers;

    public ApologyBells() {
        for (int i = 0; i < MOST_UNDONE; i++) {
            past[i] = new Street();
        }
        for (int i = 0; i < MOST_KEPT; i++) {
            kept[i] = new Street();
        }
        for (int i = 0; i <= MOST_SNOW; i++) {
            trials[i] = new Street();
        }
        for (int i = 0; i < FIRST_TEXT.length(); i++) {
            text.append(FIRST_TEXT.charAt(i));
        }
        text.readInto(now);
        text.clear();
    }

    // ---- streets

    public int write(int letter) {
        if (!isWithin(letter, 32, 126)) {
            return BAD;
        }
        return text.append(letter) ? text.length : FULL;
    }

    public int wipe() {
        int length = text.length;
        text.clear();
        return length;
    }

    public int fault() {
        return text.readInto(trials[0]);
    }

    public int lay() {
        Street told = trials[0];
        if (text.readInto(told) != NONE || told.size == 0) {
            return NO;
        }
        now.setTo(told);
        notes.clear();
        pastSize = 0;
        keptSize = 0;
        return now.size;
    }

    public int wrong(int w, int what) {
        if (!isWrong(w) || !isWithin(what, 0, 5)) {
            return BAD;
        }
        Wrong done = now.wrongs[w];
        switch (what) {
            case 0: return done.kind;
            case 1: return done.place;
            case 2: return done.need;
            case 3: return done.times;
            case 4: return done.forgiven ? 1 : 0;
            default: return done.bellState;
        }
    }

    public int bell(int w, int what) {
        if (!isWrong(w) || !isWithin(what, 0, 5)) {
            return BAD;
        }
        Wrong done = now.wrongs[w];
        if (!done.hasBell()) {
            return NONE;
        }
        switch (what) {
            case 0: return done.copper;
            case 1: return done.tin;
            case 2: return done.hangs() ? done.spot : NONE;
            case 3: return done.hangs() ? done.hour : NONE;
            case 4: return done.loudness;
            default: return isCracked(done.copper, done.tin) ? 1 : 0;
        }
    }

    public int loud(int w, int x) {
        if (!isWrong(w) || !isPlace(x)) {
            return BAD;
        }
        Wrong done = now.wrongs[w];
        return done.hangs() ? done.loudAt(x) : NO;
    }

    public int covered(int w) {
        if (!isWrong(w)) {
            return BAD;
        }
        return now.wrongs[w].hangs() ? now.coverersOf(w) : NO;
    }

    public int heard(int w) {
        if (!isWrong(w)) {
            return BAD;
        }
        if (!now.wrongs[w].hangs()) {
            return NO;
        }
        return now.isHeardToday(w) ? 1 : 0;
    }

    // ---- acts

    public int cast(int w, int c, int t) {
        if (!isWrong(w) || !isWithin(c, 1, MOST_METAL) || !isWithin(t, 0, MOST_METAL)) {
            return BAD;
        }
        if (!now.canCast(w, c, t)) {
            return NO;
        }
        remember();
        now.castBell(w, c, t);
        return loudnessOf(c, t);
    }

    public int hang(int w, int p, int h) {
        if (!isWrong(w) || !isPlace(p) || !isHour(h)) {
            return BAD;
        }
        if (!now.wrongs[w].hasBell()) {
            return NO;
        }
        remember();
        now.wrongs[w].hangBell(p, h);
        return now.othersReached(w, p, true);
    }

    public int takeDown(int w) {
        if (!isWrong(w)) {
            return BAD;
        }
        if (!now.wrongs[w].hangs()) {
            return NO;
        }
        remember();
        now.wrongs[w].bellState = LYING;
        return now.wrongs[w].spot;
    }

    public int melt(int w) {
        if (!isWrong(w)) {
            return BAD;
        }
        if (!now.wrongs[w].hasBell()) {
            return NO;
        }
        remember();
        now.meltBell(w);
        return now.copper;
    }

    public int pass(int n) {
        if (!isWithin(n, 1, MOST_PASSED)) {
            return BAD;
        }
        remember();
        for (int i = 0; i < n; i++) {
            now.goDay();
        }
        return now.day;
    }

    public int undo() {
        if (pastSize < 1) {
            return NO;
        }
        pastSize--;
        now.setTo(past[pastSize]);
        return pastSize;
    }

    // ---- what comes, what is best

    public int forgives(int w) {
        if (!isWrong(w)) {
            return BAD;
        }
        Street trial = freshTrial();
        for (int days = 0; days <= MOST_AHEAD; days++) {
            if (trial.wrongs[w].forgiven) {
                return days;
            }
            trial.goDay();
        }
        return NONE;
    }

    public int by(int n) {
        if (!isWithin(n, 0, MOST_AHEAD)) {
            return BAD;
        }
        Street trial = freshTrial();
        for (int i = 0; i < n; i++) {
            trial.goDay();
        }
        return trial.forgivenBits();
    }

    public int cheap(int w, int p, int h) {
        if (!isWrong(w) || !isPlace(p) || !isHour(h)) {
            return BAD;
        }
        Wrong done = now.wrongs[w];
        if (done.forgiven) {
            return NO;
        }
        int rival = now.loudestOther(w, h);
        for (int sum = 1; sum <= 2 * MOST_METAL; sum++) {
            for (int t = Math.max(0, sum - MOST_METAL); t <= MOST_METAL && t < sum; t++) {
                int loudHome = loudFrom(loudnessOf(sum - t, t), p, done.place);
                if (done.hears(loudHome, t, rival, true)) {
                    return 100 * (sum - t) + t;
                }
            }
        }
        return NONE;
    }

    public int best(int w, int what) {
        if (!isWrong(w) || !isWithin(what, 0, 2)) {
            return BAD;
        }
        if (!now.wrongs[w].hasBell()) {
            return NO;
        }
        findBest(w);
        switch (what) {
            case 0: return bestPlace;
            case 1: return bestHour;
            default: return bestOthers;
        }
    }

    public int hours(int w) {
        if (w != -1 && !isWrong(w)) {
            return BAD;
        }
        int fewest = plan.fit(now);
        return w == -1 ? fewest : plan.hourOf[w];
    }

    public int hush(int w) {
        if (!isWrong(w)) {
            return BAD;
        }
        Wrong done = now.wrongs[w];
        if (!done.hangs()) {
            return NO;
        }
        // Each that covers it must go, and no other has to: what covers it is the one fewest.
        return done.isReachedBy(done.loudAtHome(), done.tin, true) ? now.coverersOf(w) : NONE;
    }

    // ---- what was noted

    public int note(int x, int l) {
        if (!isPlace(x) || !isWithin(l, 0, MOST_NOTED_LOUD)) {
            return BAD;
        }
        return notes.append(x, l) ? notes.size : FULL;
    }

    public int forget() {
        int size = notes.size;
        notes.clear();
        return size;
    }

    public int which() {
        int bits = 0;
        for (int w = 0; w < now.size; w++) {
            if (now.wrongs[w].hangs() && notes.fit(now.wrongs[w])) {
                bits |= 1 << w;
            }
        }
        return bits;
    }

    public int casts(int l, int what) {
        if (!isWithin(l, 0, MOST_NOTED_LOUD) || !isWithin(what, 0, 1)) {
            return BAD;
        }
        int ways = 0;
        int first = NONE;
        for (int c = 1; c <= MOST_METAL; c++) {
            for (int t = 0; t <= MOST_METAL; t++) {
                if (loudnessOf(c, t) == l) {
                    ways++;
                    first = ways == 1 ? 100 * c + t : first;
                }
            }
        }
        return what == 0 ? ways : first;
    }

    // ---- snow, years

    public int snow(int w, int n, int x, int part) {
        if (!isWrong(w) || !isWithin(n, 0, MOST_SNOW) || !isWithin(x, 0, 10) || !isWithin(part, 0, 1)) {
            return BAD;
        }
        freshTrial();
        int above = forgivenShares(w, 0, n, x);
        int below = tenToThe(n);
        int common = commonDivisor(above, below);
        int asked = part == 0 ? above : below;
        return common > 0 ? asked / common : asked;
    }

    public int year(int z, int n, int what) {
        if (!isWithin(z, 0, LAST_YEAR) || !isWithin(n, 1, MOST_AHEAD) || !isWithin(what, 0, 1)) {
            return BAD;
        }
        Street trial = freshTrial();
        for (int k = 0; k < n; k++) {
            actByDraw(trial, drawOf(z, k));
            trial.goDay();
        }
        return what == 0 ? Integer.bitCount(trial.forgivenBits()) : trial.copper;
    }

    public int keep() {
        if (keptSize >= MOST_KEPT) {
            return FULL;
        }
        kept[keptSize].setTo(now);
        keptSize++;
        return keptSize;
    }

    public int back() {
        if (keptSize < 1) {
            return NO;
        }
        keptSize--;
        now.setTo(kept[keptSize]);
        pastSize = 0;
        return keptSize;
    }

    public int count(int what) {
        switch (what) {
            case 0: return now.size;
            case 1: return now.day;
            case 2: return now.copper;
            case 3: return now.tin;
            case 4: return now.bellsAtLeast(LYING);
            case 5: return now.bellsAtLeast(HANGING);
            case 6: return Integer.bitCount(now.forgivenBits());
            case 7: return Integer.bitCount(now.heardBits());
            case 8: return notes.size;
            case 9: return pastSize;
            case 10: return keptSize;
            case 11: return text.length;
            default: return BAD;
        }
    }

    // ---- what the calls share

    private boolean isWrong(int w) {
        return isWithin(w, 0, now.size - 1);
    }

    private static boolean isPlace(int x) {
        return isWithin(x, 0, LAST_PLACE);
    }

    private static boolean isHour(int h) {
        return isWithin(h, 0, LAST_HOUR);
    }

    private static boolean isWithin(int number, int least, int most) {
        return number >= least && number <= most;
    }

    private static boolean isCracked(int copper, int tin) {
        return tin > copper;
    }

    private static int loudnessOf(int copper, int tin) {
        int whole = 2 * copper + tin;
        return isCracked(copper, tin) ? whole / 2 : whole;
    }

    private static int loudFrom(int loudness, int spot, int x) {
        int far = spot > x ? spot - x : x - spot;
        return loudness > far ? loudness - far : 0;
    }

    private Street freshTrial() {
        trials[0].setTo(now);
        return trials[0];
    }

    private void remember() {
        if (pastSize >= MOST_UNDONE) {
            dropOldest();
        }
        past[pastSize].setTo(now);
        pastSize++;
    }

    private void dropOldest() {
        Street oldest = past[0];
        for (int i = 1; i < MOST_UNDONE; i++) {
            past[i - 1] = past[i];
        }
        past[MOST_UNDONE - 1] = oldest;
        pastSize = MOST_UNDONE - 1;
    }

    private void findBest(int w) {
        Wrong done = now.wrongs[w];
        bestPlace = NONE;
        bestHour = NONE;
        bestOthers = NONE;
        for (int p = 0; p <= LAST_PLACE; p++) {
            int others = now.othersReached(w, p, false);
            if (bestOthers == NONE || others < bestOthers) {
                int hour = firstHourHeard(w, loudFrom(done.loudness, p, done.place));
                if (hour != NONE) {
                    bestPlace = p;
                    bestHour = hour;
                    bestOthers = others;
                }
            }
        }
    }

    private int firstHourHeard(int w, int loudHome) {
        Wrong done = now.wrongs[w];
        for (int h = 0; h <= LAST_HOUR; h++) {
            if (done.hears(loudHome, done.tin, now.loudestOther(w, h), true)) {
                return h;
            }
        }
        return NONE;
    }

    /** Of ten to the (last - day) equal shares, those in which w is forgiven behind the last day. */
    private int forgivenShares(int w, int day, int last, int x) {
        if (trials[day].wrongs[w].forgiven) {
            return tenToThe(last - day);
        }
        if (day >= last || day >= MOST_SNOW) {
            return 0;
        }
        int shares = 0;
        Street next = trials[day + 1];
        if (x > 0) {
            next.setTo(trials[day]);
            next.day++;
            shares += x * forgivenShares(w, day + 1, last, x);
        }
        if (x < 10) {
            next.setTo(trials[day]);
            next.goDay();
            shares += (10 - x) * forgivenShares(w, day + 1, last, x);
        }
        return shares;
    }

    private static int tenToThe(int n) {
        int power = 1;
        for (int i = 0; i < n && i < MOST_SNOW; i++) {
            power *= 10;
        }
        return power;
    }

    private static int commonDivisor(int a, int b) {
        int divisor = a;
        int rest = b;
        for (int steps = 0; steps < 100 && rest > 0; steps++) {
            int next = divisor % rest;
            divisor = rest;
            rest = next;
        }
        return divisor;
    }

    private static int drawOf(int z, int k) {
        long x = 7919L * z + 6151L * k + 1;
        return (int) (x * x % 65521);
    }

    private static void actByDraw(Street street, int draw) {
        if (street.size < 1) {
            return;
        }
        int w = draw / 8 % street.size;
        Wrong done = street.wrongs[w];
        switch (draw % 8) {
            case 0:
            case 1:
                int c = draw / 64 % 9 + 1;
                int t = draw / 512 % 5;
                if (street.canCast(w, c, t)) {
                    street.castBell(w, c, t);
                }
                break;
            case 2:
            case 3:
                if (done.hasBell()) {
                    done.hangBell(draw / 64 % (LAST_PLACE + 1), draw / 512 % (LAST_HOUR + 1));
                }
                break;
            case 4:
                if (done.hasBell()) {
                    street.meltBell(w);
                }
                break;
            default:
                break;
        }
    }

    /** A wrong with the one it was done to, and the bell for it, if there is one. */
    private static final class Wrong {
        int kind;
        int place;
        int need;
        int times;
        boolean forgiven;
        int bellState;
        int copper;
        int tin;
        int loudness;
        int spot;
        int hour;

        void setTo(Wrong other) {
            kind = other.kind;
            place = other.place;
            need = other.need;
            times = other.times;
            forgiven = other.forgiven;
            bellState = other.bellState;
            copper = other.copper;
            tin = other.tin;
            loudness = other.loudness;
            spot = other.spot;
            hour = other.hour;
        }

        void begin(int newKind, int newPlace, int newNeed) {
            kind = newKind;
            place = newPlace;
            need = newNeed;
            times = 0;
            forgiven = false;
            bellState = WITHOUT_BELL;
        }

        boolean hasBell() {
            return bellState >= LYING;
        }

        boolean hangs() {
            return bellState == HANGING;
        }

        void giveBell(int c, int t) {
            copper = c;
            tin = t;
            loudness = loudnessOf(c, t);
            bellState = LYING;
        }

        void hangBell(int p, int h) {
            spot = p;
            hour = h;
            bellState = HANGING;
        }

        int loudAt(int x) {
            return loudFrom(loudness, spot, x);
        }

        int loudAtHome() {
            return loudFrom(loudness, spot, place);
        }

        /** Whether a bell that is so loud where this one lives, of so much tin, sounds to this one. */
        boolean isReachedBy(int loudHere, int tinOfIt, boolean evenDay) {
            switch (kind) {
                case DEAF: return loudHere >= DEAF_HEARS;
                case GRAVE: return loudHere >= 1 && evenDay;
                case PROUD: return loudHere >= 1 && tinOfIt == 0;
                default: return loudHere >= 1;
            }
        }

        /** The same, while the loudest other bell that rings then is as loud here as the rival. */
        boolean hears(int loudHere, int tinOfIt, int rival, boolean evenDay) {
            return isReachedBy(loudHere, tinOfIt, evenDay) && rival < loudHere;
        }
    }

    /** All that changes by acts and days: the wrongs with their bells, the store, the day. */
    private static final class Street {
        final Wrong[] wrongs = new Wrong[MOST_WRONGS];
        int size;
        int day;
        int copper;
        int tin;

        Street() {
            for (int w = 0; w < MOST_WRONGS; w++) {
                wrongs[w] = new Wrong();
            }
        }

        void clear() {
            size = 0;
            day = 0;
            copper = FIRST_COPPER;
            tin = FIRST_TIN;
        }

        void setTo(Street other) {
            size = other.size;
            day = other.day;
            copper = other.copper;
            tin = other.tin;
            for (int w = 0; w < size && w < MOST_WRONGS; w++) {
                wrongs[w].setTo(other.wrongs[w]);
            }
        }

        boolean append(int kind, int place, int need) {
            if (size >= MOST_WRONGS) {
                return false;
            }
            wrongs[size].begin(kind, place, need);
            size++;
            return true;
        }

        boolean canCast(int w, int c, int t) {
            return !wrongs[w].hasBell() && !wrongs[w].forgiven && c <= copper && t <= tin;
        }

        void castBell(int w, int c, int t) {
            copper -= c;
            tin -= t;
            wrongs[w].giveBell(c, t);
        }

        void meltBell(int w) {
            copper += wrongs[w].copper;
            tin += wrongs[w].tin;
            wrongs[w].bellState = WITHOUT_BELL;
        }

        /** How loud the loudest other bell that rings in an hour is where the one of w lives. */
        int loudestOther(int w, int hour) {
            int home = wrongs[w].place;
            int loudest = 0;
            for (int v = 0; v < size; v++) {
                Wrong other = wrongs[v];
                if (v != w && other.hangs() && other.hour == hour) {
                    loudest = Math.max(loudest, loudFrom(other.loudness, other.spot, home));
                }
            }
            return loudest;
        }

        int coverersOf(int w) {
            int bits = 0;
            for (int v = 0; v < size; v++) {
                if (v != w && wrongs[v].hangs() && wrongs[v].hour == wrongs[w].hour && drowns(v, w)) {
                    bits |= 1 << v;
                }
            }
            return bits;
        }

        /** Whether the bell of v would cover that of w, did they ring in one hour. */
        boolean drowns(int v, int w) {
            return wrongs[v].loudAt(wrongs[w].place) >= Math.max(1, wrongs[w].loudAtHome());
        }

        boolean isHeardToday(int w) {
            Wrong done = wrongs[w];
            return done.hangs() && done.hears(done.loudAtHome(), done.tin, loudestOther(w, done.hour), day % 2 == 0);
        }

        int othersReached(int w, int p, boolean withForgiven) {
            int others = 0;
            for (int v = 0; v < size; v++) {
                boolean counts = v != w && (withForgiven || !wrongs[v].forgiven);
                if (counts && loudFrom(wrongs[w].loudness, p, wrongs[v].place) >= 1) {
                    others++;
                }
            }
            return others;
        }

        int heardBits() {
            int bits = 0;
            for (int w = 0; w < size; w++) {
                if (isHeardToday(w)) {
                    bits |= 1 << w;
                }
            }
            return bits;
        }

        int forgivenBits() {
            int bits = 0;
            for (int w = 0; w < size; w++) {
                if (wrongs[w].forgiven) {
                    bits |= 1 << w;
                }
            }
            return bits;
        }

        int bellsAtLeast(int bellState) {
            int bells = 0;
            for (int w = 0; w < size; w++) {
                if (wrongs[w].bellState >= bellState) {
                    bells++;
                }
            }
            return bells;
        }

        void goDay() {
            // All are found ahead of the first that is melted, since it may have covered another.
            int bits = heardBits();
            for (int w = 0; w < size; w++) {
                if ((bits >> w & 1) == 1) {
                    hearOnce(w);
                }
            }
            day++;
        }

        private void hearOnce(int w) {
            wrongs[w].times++;
            if (wrongs[w].times >= wrongs[w].need) {
                wrongs[w].forgiven = true;
                meltBell(w);
            }
        }
    }

    /** The text as it was written, and the street that it tells. */
    private static final class Text {
        private final int[] letters = new int[MOST_LETTERS];
        private final int[] numbers = new int[5];
        private int at;
        int length;

        boolean append(int letter) {
            if (length >= MOST_LETTERS) {
                return false;
            }
            letters[length] = letter;
            length++;
            return true;
        }

        void clear() {
            length = 0;
        }

        /** The fault, or NONE; up to the fault the street is as told. */
        int readInto(Street street) {
            street.clear();
            at = 0;
            for (int items = 0; items < MOST_LETTERS && at < length; items++) {
                int start = at;
                if (!readItem(street)) {
                    return start;
                }
            }
            return NONE;
        }

        private boolean readItem(Street street) {
            int kind = nextLetter();
            switch (kind) {
                case 'w': return readNumbers(3) && tellWrong(street);
                case 'm': return readNumbers(2) && tellStore(street);
                case 'b': return readNumbers(5) && tellBell(street);
                default: return false;
            }
        }

        private boolean readNumbers(int many) {
            for (int i = 0; i < many; i++) {
                if (!isDigit(letterHere())) {
                    return false;
                }
                int number = nextLetter() - '0';
                if (isDigit(letterHere())) {
                    number = 10 * number + nextLetter() - '0';
                }
                numbers[i] = number;
                if (nextLetter() != (i == many - 1 ? ';' : ',')) {
                    return false;
                }
            }
            return true;
        }

        private int letterHere() {
            return at < length ? letters[at] : NONE;
        }

        private int nextLetter() {
            int letter = letterHere();
            at++;
            return letter;
        }

        private static boolean isDigit(int letter) {
            return isWithin(letter, '0', '9');
        }

        private boolean tellWrong(Street street) {
            boolean isTold = isWithin(numbers[0], PLAIN, PROUD) && isPlace(numbers[1]) && isWithin(numbers[2], 1, MOST_HEARD);
            return isTold && street.append(numbers[0], numbers[1], numbers[2]);
        }

        private boolean tellStore(Street street) {
            street.copper = numbers[0];
            street.tin = numbers[1];
            return true;
        }

        private boolean tellBell(Street street) {
            int w = numbers[0];
            if (w >= street.size || street.wrongs[w].hasBell()) {
                return false;
            }
            if (!isWithin(numbers[1], 1, MOST_METAL) || !isWithin(numbers[2], 0, MOST_METAL)) {
                return false;
            }
            if (!isPlace(numbers[3]) || !isHour(numbers[4])) {
                return false;
            }
            street.wrongs[w].giveBell(numbers[1], numbers[2]);
            street.wrongs[w].hangBell(numbers[3], numbers[4]);
            return true;
        }
    }

    /** What was noted of one bell: how loud it is at which places. */
    private static final class Notes {
        private final int[] places = new int[MOST_NOTED];
        private final int[] louds = new int[MOST_NOTED];
        int size;

        boolean append(int place, int loudThere) {
            if (size >= MOST_NOTED) {
                return false;
            }
            places[size] = place;
            louds[size] = loudThere;
            size++;
            return true;
        }

        void clear() {
            size = 0;
        }

        boolean fit(Wrong done) {
            for (int i = 0; i < size; i++) {
                if (done.loudAt(places[i]) != louds[i]) {
                    return false;
                }
            }
            return true;
        }
    }

    /** The fewest hours for the bells that hang, and the hour of each. */
    private static final class HourPlan {
        final int[] hourOf = new int[MOST_WRONGS];

        int fit(Street street) {
            for (int most = 0; most <= MOST_WRONGS; most++) {
                if (fitFrom(street, 0, 0, most)) {
                    return most;
                }
            }
            return NONE;
        }

        /** Tries the lower hours ahead, so the first way that fits is the first of all. */
        private boolean fitFrom(Street street, int w, int used, int most) {
            if (w >= street.size || w >= MOST_WRONGS) {
                return true;
            }
            hourOf[w] = NONE;
            if (!street.wrongs[w].hangs()) {
                return fitFrom(street, w + 1, used, most);
            }
            for (int hour = 0; hour <= used && hour < most; hour++) {
                hourOf[w] = hour;
                if (isFree(street, w) && fitFrom(street, w + 1, Math.max(used, hour + 1), most)) {
                    return true;
                }
            }
            return false;
        }

        private boolean isFree(Street street, int w) {
            for (int v = 0; v < w; v++) {
                if (hourOf[v] == hourOf[w] && (street.drowns(v, w) || street.drowns(w, v))) {
                    return false;
                }
            }
            return true;
        }
    }
}
