/**
 * Arrested in order: nobody may be taken up while there is one at large who has done worse.
 * What each call answers stands in the document's promises 1 to 30.
 */
public final class ArrestOrder {
    public static final int UNKNOWN = -1, BAD = -2, LATE = -3, FULL = -4, NONE = -9;

    private static final int MOST_PEOPLE = 7;
    private static final int MOST_BYTES = 48;
    private static final int MOST_ACTS = 14;
    private static final int MOST_SEEN = 6;
    private static final int MOST_DAYS = 30;
    private static final int SLOTS = 2;
    private static final int DEEDS = 10;

    private static final int KINDS = 4;
    private static final int LOUD = 1;
    private static final int SHAM = 2;
    private static final int CHILD = 3;
    private static final int SHAM_IS_HELD_FOR = 2;

    private static final int NOT_TAKEN_IS_WORTH = 9;
    private static final int NO_CHOICE_IS_WORTH = -9;
    private static final int CHOICES = MOST_PEOPLE + 1;

    private static final long SEED_FACTOR = 6364136223846793005L;
    private static final long SEED_STEP = 1442695040888963407L;
    private static final int SEED_REST = 12;

    private final Text text;
    private final Standing now;
    /** What is only tried is tried here, so that no call has to make an object. */
    private final Standing trial;
    private final Acts acts;
    private final Standing[] slots;
    private int keptSlots;
    /** Ten times the one that was taken ahead and the other one. */
    private final int[] seen;
    private int seenCount;
    private long seed;
    /** By CHOICES times the one's choice and the other one's: what each of two people has. */
    private final int[] oneHas;
    private final int[] otherHas;

    public ArrestOrder() {
        text = new Text();
        now = new Standing();
        trial = new Standing();
        acts = new Acts();
        slots = new Standing[SLOTS];
        for (int slot = 0; slot < SLOTS; slot++) {
            slots[slot] = new Standing();
        }
        seen = new int[MOST_SEEN];
        oneHas = new int[CHOICES * CHOICES];
        otherHas = new int[CHOICES * CHOICES];
    }

    // ---- the county

    public int write(int letter) {
        if (letter < 0 || letter > 255) {
            return BAD;
        }
        return text.append(letter) ? text.length : FULL;
    }

    public int wipe() {
        int was = text.length;
        text.length = 0;
        return was;
    }

    public int fault() {
        return text.readInto(trial);
    }

    public int county() {
        if (text.readInto(trial) != NONE) {
            return LATE;
        }
        now.copy(trial);
        acts.count = 0;
        keptSlots = 0;
        return now.people;
    }

    public int about(int what) {
        switch (what) {
            case 0: return now.people;
            case 1: return now.large;
            case 2: return now.mayBeTaken(now.large);
            case 3: return now.hiddenOnes();
            case 4: return now.dead;
            case 5: return now.dayNumber;
            case 6: return acts.count;
            case 7: return seenCount;
            case 8: return text.length;
            default: return BAD;
        }
    }

    public int person(int person, int what) {
        if (!now.has(person)) {
            return UNKNOWN;
        }
        switch (what) {
            case 0: return now.deedOf(person);
            case 1: return now.kindOf(person);
            case 2: return now.gradeOf(person);
            case 3: return now.whomFeeds(person);
            default: return BAD;
        }
    }

    // ---- acts

    public int take(int person) {
        if (!now.has(person)) {
            return UNKNOWN;
        }
        if (!isIn(now.mayBeTaken(now.large), person)) {
            return LATE;
        }
        acts.remember(now);
        now.large = without(now.large, person);
        return Integer.bitCount(now.large);
    }

    public int free(int person) {
        if (!now.has(person)) {
            return UNKNOWN;
        }
        if (isIn(now.large | now.dead, person)) {
            return LATE;
        }
        acts.remember(now);
        now.large |= bit(person);
        return Integer.bitCount(now.large);
    }

    public int die(int person) {
        if (!now.has(person)) {
            return UNKNOWN;
        }
        if (isIn(now.dead, person)) {
            return LATE;
        }
        acts.remember(now);
        now.bury(person);
        return Integer.bitCount(now.large);
    }

    public int feed(int person, int other) {
        if (!now.has(person) || !now.has(other)) {
            return UNKNOWN;
        }
        if (person == other) {
            return BAD;
        }
        acts.remember(now);
        now.feeding ^= pair(person, other);
        return now.feeds(person, other) ? 1 : 0;
    }

    public int grade(int person, int deed) {
        if (!now.has(person)) {
            return UNKNOWN;
        }
        if (deed < 0 || deed >= DEEDS) {
            return BAD;
        }
        int was = now.deedOf(person);
        if (deed == was) {
            return LATE;
        }
        acts.remember(now);
        now.setDeed(person, deed);
        return was;
    }

    public int day() {
        acts.remember(now);
        return now.passDay();
    }

    public int undo() {
        return acts.takeBackInto(now) ? acts.count : LATE;
    }

    // ---- the fall

    public int fall() {
        return now.fallRow();
    }

    public int place(int person) {
        return now.has(person) ? now.placeOf(person) : UNKNOWN;
    }

    public int last() {
        return now.leftBehind(now.large);
    }

    public int toFeed(int person, int what) {
        if (!now.has(person)) {
            return UNKNOWN;
        }
        if (what < 0 || what > 1) {
            return BAD;
        }
        if (!now.isTaken(person, now.large)) {
            return 0;
        }
        trial.copy(now);
        int row = onePair(person);
        if (row != NONE) {
            return what == 0 ? 1 : row;
        }
        row = twoPairs(person);
        return what == 0 && row != NONE ? 2 : row;
    }

    public int giveUp(int person) {
        if (!now.has(person)) {
            return UNKNOWN;
        }
        if (!isIn(now.large, person)) {
            return LATE;
        }
        int others = without(now.large, person);
        int best = NONE;
        for (int given = 0; given <= others; given++) {
            boolean fewer = best == NONE || Integer.bitCount(given) < Integer.bitCount(best);
            if ((given & others) == given && fewer && now.isTaken(person, now.large & ~given)) {
                best = given;
            }
        }
        return best;
    }

    public int claim(int person) {
        if (!now.has(person)) {
            return UNKNOWN;
        }
        if (!isIn(now.large, person)) {
            return LATE;
        }
        trial.copy(now);
        int best = 0;
        int latest = -1;
        for (int deed = 0; deed < DEEDS; deed++) {
            trial.setDeed(person, deed);
            int worth = trial.worthOf(person);
            if (worth > latest) {
                latest = worth;
                best = deed;
            }
        }
        return best;
    }

    public int share(int person, boolean upper) {
        if (!now.has(person)) {
            return UNKNOWN;
        }
        if (!isIn(now.large, person)) {
            return inLeastTerms(0, 1, upper);
        }
        int others = without(now.large, person);
        int otherCount = Integer.bitCount(others);
        int sum = 0;
        for (int come = 0; come <= others; come++) {
            if ((come & others) == come) {
                int ahead = Integer.bitCount(come);
                int orders = factorial(ahead) * factorial(otherCount - ahead);
                sum += orders * (now.countTaken(come | bit(person)) - now.countTaken(come));
            }
        }
        return inLeastTerms(sum, factorial(otherCount + 1), upper);
    }

    // ---- seen

    public int see(int person, int other) {
        if (!now.has(person) || !now.has(other)) {
            return UNKNOWN;
        }
        if (person == other) {
            return BAD;
        }
        if (seenCount >= MOST_SEEN) {
            return FULL;
        }
        seen[seenCount] = 10 * person + other;
        seenCount++;
        return seenCount;
    }

    public int unsee() {
        int was = seenCount;
        seenCount = 0;
        return was;
    }

    public int did(int person) {
        if (!now.has(person)) {
            return UNKNOWN;
        }
        trial.copy(now);
        int deeds = 0;
        for (int deed = 0; deed < DEEDS; deed++) {
            trial.setDeed(person, deed);
            if (allSeenIsSo()) {
                deeds |= bit(deed);
            }
        }
        return deeds;
    }

    // ---- rests, tosses

    public int rests(int person, int other, int what) {
        if (!now.has(person) || !now.has(other)) {
            return UNKNOWN;
        }
        if (person == other || what < 0 || what > 1) {
            return BAD;
        }
        if (!isIn(now.large, person) || !isIn(now.large, other)) {
            return LATE;
        }
        weighChoices(person, other);
        int count = 0;
        int first = NONE;
        for (int one = 0; one <= now.people; one++) {
            for (int two = 0; two <= now.people; two++) {
                if (isRest(one, two)) {
                    first = count == 0 ? 10 * one + two : first;
                    count++;
                }
            }
        }
        return what == 0 ? count : first;
    }

    /**
     * The odds are always 0 or 1: who MAY be taken still MAY when somebody else has been taken
     * (no feeder and no greater GRADE comes to it), so that every order takes the same people.
     */
    public int toss(int person, boolean upper) {
        if (!now.has(person)) {
            return UNKNOWN;
        }
        return inLeastTerms(now.isTaken(person, now.large) ? 1 : 0, 1, upper);
    }

    public long seed(long v) {
        long was = seed;
        seed = v;
        return was;
    }

    public int days(int m) {
        if (m < 1 || m > MOST_DAYS) {
            return BAD;
        }
        trial.copy(now);
        int taken = 0;
        for (int time = 0; time < m; time++) {
            seed = seed * SEED_FACTOR + SEED_STEP;
            int drawn = (int) (seed >>> 33) % SEED_REST;
            if (drawn >= MOST_PEOPLE) {
                taken += trial.passDay() == NONE ? 0 : 1;
            } else if (trial.has(drawn)) {
                trial.bury(drawn);
            }
        }
        return taken;
    }

    // ---- slots

    public int keep(int slot) {
        if (slot < 0 || slot >= SLOTS) {
            return UNKNOWN;
        }
        slots[slot].copy(now);
        keptSlots |= bit(slot);
        return now.dayNumber;
    }

    public int again(int slot) {
        if (slot < 0 || slot >= SLOTS) {
            return UNKNOWN;
        }
        if (!isIn(keptSlots, slot)) {
            return LATE;
        }
        now.copy(slots[slot]);
        acts.count = 0;
        return now.dayNumber;
    }

    // ---- FEED

    /** The first pair by which one that is taken, tried in 'trial', is not; NONE. */
    private int onePair(int person) {
        for (int figures = 0; figures < 10 * now.people; figures++) {
            long fed = newPair(figures);
            if (fed != 0 && savesByFeeding(person, fed)) {
                return figures;
            }
        }
        return NONE;
    }

    /** The lesser pair stands ahead: so the first row that is found is the least as a number. */
    private int twoPairs(int person) {
        int end = 10 * now.people;
        for (int ahead = 0; ahead < end; ahead++) {
            long fed = newPair(ahead);
            for (int behind = ahead + 1; fed != 0 && behind < end; behind++) {
                long fedToo = newPair(behind);
                if (fedToo != 0 && savesByFeeding(person, fed | fedToo)) {
                    return 100 * ahead + behind;
                }
            }
        }
        return NONE;
    }

    /** The pair that two figures tell; 0 if they tell none, or one who FEEDS the other already. */
    private long newPair(int figures) {
        int one = figures / 10;
        int other = figures % 10;
        boolean isNew = now.has(one) && now.has(other) && one != other && !now.feeds(one, other);
        return isNew ? pair(one, other) : 0L;
    }

    private boolean savesByFeeding(int person, long fed) {
        trial.feeding = now.feeding | fed;
        return isIn(trial.leftBehind(trial.large), person);
    }

    // ---- SEEN

    private boolean allSeenIsSo() {
        for (int at = 0; at < seenCount; at++) {
            if (!isSo(seen[at] / 10, seen[at] % 10)) {
                return false;
            }
        }
        return true;
    }

    private boolean isSo(int one, int other) {
        if (!trial.has(one) || !trial.has(other)) {
            return true;
        }
        int placeOfOne = trial.placeOf(one);
        int placeOfOther = trial.placeOf(other);
        return placeOfOne != NONE && (placeOfOther == NONE || placeOfOther > placeOfOne);
    }

    // ---- RESTS

    private void weighChoices(int person, int other) {
        trial.copy(now);
        for (int one = 0; one <= now.people; one++) {
            for (int two = 0; two <= now.people; two++) {
                int at = CHOICES * one + two;
                trial.feeding = now.feeding | chosen(person, one) | chosen(other, two);
                oneHas[at] = isOpen(person, one) ? trial.worthOf(person) - cost(one) : NO_CHOICE_IS_WORTH;
                otherHas[at] = isOpen(other, two) ? trial.worthOf(other) - cost(two) : NO_CHOICE_IS_WORTH;
            }
        }
    }

    /** Nobody can choose itself: such a choice feeds nobody and is worth less than any other. */
    private static boolean isOpen(int person, int choice) {
        return choice != person + 1;
    }

    private static long chosen(int person, int choice) {
        return choice > 0 && isOpen(person, choice) ? pair(person, choice - 1) : 0L;
    }

    private static int cost(int choice) {
        return choice == 0 ? 0 : 1;
    }

    /** A choice that is not open is no rest, as 0 is always worth more. */
    private boolean isRest(int one, int two) {
        int at = CHOICES * one + two;
        for (int choice = 0; choice <= now.people; choice++) {
            if (oneHas[CHOICES * choice + two] > oneHas[at]) {
                return false;
            }
            if (otherHas[CHOICES * one + choice] > otherHas[at]) {
                return false;
            }
        }
        return true;
    }

    // ---- bits, pairs and fractions

    private static int bit(int person) {
        return 1 << person;
    }

    private static boolean isIn(int bits, int person) {
        return (bits & (1 << person)) != 0;
    }

    private static int without(int bits, int person) {
        return bits & ~(1 << person);
    }

    private static int leastOf(int bits) {
        for (int person = 0; person < MOST_PEOPLE; person++) {
            if (isIn(bits, person)) {
                return person;
            }
        }
        return NONE;
    }

    /** Seven bits for each PERSON that is fed, who FEEDS it in them. */
    private static long pair(int one, int other) {
        return 1L << (MOST_PEOPLE * other + one);
    }

    private static int factorial(int n) {
        int product = 1;
        for (int factor = 2; factor <= n; factor++) {
            product *= factor;
        }
        return product;
    }

    private static int inLeastTerms(int above, int below, boolean upper) {
        int common = commonDivisor(Math.abs(above), below);
        int told = upper ? above : below;
        return common > 0 ? told / common : told;
    }

    private static int commonDivisor(int a, int b) {
        int greater = a;
        int less = b;
        for (int step = 0; step < 100 && less != 0; step++) {
            int rest = greater % less;
            greater = less;
            less = rest;
        }
        return greater;
    }

    /** THE TEXT, and how a county is read from it. */
    private static final class Text {
        private final int[] bytes;
        private int length;

        private Text() {
            bytes = new int[MOST_BYTES];
        }

        private boolean append(int letter) {
            if (length >= MOST_BYTES) {
                return false;
            }
            bytes[length] = letter;
            length++;
            return true;
        }

        /** FAULT; if there is none, NONE, and the county stands in 'told'. */
        private int readInto(Standing told) {
            told.clear();
            if (byteAt(0) != 'A') {
                return 0;
            }
            for (int at = 1; at < length; at += 3) {
                int wrong = readPart(at, told);
                if (wrong != NONE) {
                    return wrong;
                }
            }
            return NONE;
        }

        private int readPart(int at, Standing told) {
            if (byteAt(at) == 'P' && told.people < MOST_PEOPLE) {
                return readPerson(at + 1, told);
            }
            if (byteAt(at) == 'F' && told.hasPairLeft()) {
                return readPair(at + 1, told);
            }
            return at;
        }

        private int readPerson(int at, Standing told) {
            int deed = figureAt(at);
            if (deed == NONE) {
                return at;
            }
            int kind = figureAt(at + 1);
            if (kind == NONE || kind >= KINDS) {
                return at + 1;
            }
            told.add(deed, kind);
            return NONE;
        }

        private int readPair(int at, Standing told) {
            int one = figureAt(at);
            if (!told.has(one) || Integer.bitCount(told.whomFeeds(one)) >= told.people - 1) {
                return at;
            }
            int other = figureAt(at + 1);
            if (!told.has(other) || one == other || told.feeds(one, other)) {
                return at + 1;
            }
            told.feeding |= pair(one, other);
            return NONE;
        }

        /** NONE behind the end: so a part that is not at its end is at fault at THE TEXT's length. */
        private int byteAt(int at) {
            return at >= 0 && at < length && at < MOST_BYTES ? bytes[at] : NONE;
        }

        private int figureAt(int at) {
            int letter = byteAt(at);
            return letter >= '0' && letter <= '9' ? letter - '0' : NONE;
        }
    }

    /** The row of ACTS, each as what stood before it; a ring, so that the first one can be forgotten. */
    private static final class Acts {
        private final Standing[] before;
        private int first;
        private int count;

        private Acts() {
            before = new Standing[MOST_ACTS];
            for (int at = 0; at < MOST_ACTS; at++) {
                before[at] = new Standing();
            }
        }

        private void remember(Standing standing) {
            before[(first + count) % MOST_ACTS].copy(standing);
            if (count < MOST_ACTS) {
                count++;
            } else {
                first = (first + 1) % MOST_ACTS;
            }
        }

        private boolean takeBackInto(Standing standing) {
            if (count == 0) {
                return false;
            }
            count--;
            standing.copy(before[(first + count) % MOST_ACTS]);
            return true;
        }
    }

    /** Who there is and how they stand: what ACTS change and SLOTS keep. */
    private static final class Standing {
        private int people;
        /** Four bits for each PERSON. */
        private int kinds;
        private int deeds;
        /** The pairs of who FEEDS whom. */
        private long feeding;
        private int large;
        private int dead;
        private int dayNumber;

        private void clear() {
            people = 0;
            kinds = 0;
            deeds = 0;
            feeding = 0L;
            large = 0;
            dead = 0;
            dayNumber = 0;
        }

        private void copy(Standing from) {
            people = from.people;
            kinds = from.kinds;
            deeds = from.deeds;
            feeding = from.feeding;
            large = from.large;
            dead = from.dead;
            dayNumber = from.dayNumber;
        }

        private void add(int deed, int kind) {
            int person = people;
            people++;
            kinds |= kind << (4 * person);
            deeds |= deed << (4 * person);
            large |= bit(person);
        }

        private boolean has(int person) {
            return person >= 0 && person < people;
        }

        private int deedOf(int person) {
            return (deeds >>> (4 * person)) & 15;
        }

        private void setDeed(int person, int deed) {
            deeds = (deeds & ~(15 << (4 * person))) | (deed << (4 * person));
        }

        private int kindOf(int person) {
            return (kinds >>> (4 * person)) & 15;
        }

        private int gradeOf(int person) {
            int kind = kindOf(person);
            if (kind == CHILD) {
                return 0;
            }
            return deedOf(person) + (kind == SHAM ? SHAM_IS_HELD_FOR : 0);
        }

        private boolean feeds(int one, int other) {
            return (feeding & pair(one, other)) != 0;
        }

        private int whomFeeds(int person) {
            int fed = 0;
            for (int other = 0; other < people; other++) {
                if (feeds(person, other)) {
                    fed |= bit(other);
                }
            }
            return fed;
        }

        private boolean hasPairLeft() {
            return Long.bitCount(feeding) < people * (people - 1);
        }

        private void bury(int person) {
            large = without(large, person);
            dead |= bit(person);
        }

        /** A DAY: who is TAKEN; NONE. */
        private int passDay() {
            int who = leastOf(mayBeTaken(large));
            if (who != NONE) {
                large = without(large, who);
            }
            dayNumber++;
            return who;
        }

        /** The bits above the seven of this PERSON fall away with 'atLarge', which has seven. */
        private boolean isHidden(int person, int atLarge) {
            int feeders = (int) (feeding >>> (MOST_PEOPLE * person));
            return (feeders & atLarge) != 0 && kindOf(person) != LOUD;
        }

        private int hiddenOnes() {
            int hidden = 0;
            for (int person = 0; person < people; person++) {
                if (isHidden(person, large)) {
                    hidden |= bit(person);
                }
            }
            return hidden;
        }

        /** Who MAY be taken, if just these are at LARGE. */
        private int mayBeTaken(int atLarge) {
            int may = 0;
            int worst = 0;
            for (int person = 0; person < people; person++) {
                if (isIn(atLarge, person)) {
                    int held = gradeOf(person);
                    if (held > worst) {
                        worst = held;
                        may = 0;
                    }
                    if (held == worst && !isHidden(person, atLarge)) {
                        may |= bit(person);
                    }
                }
            }
            return may;
        }

        private int fallRow() {
            int row = 0;
            int left = large;
            for (int step = 0; step < people; step++) {
                int who = leastOf(mayBeTaken(left));
                if (who == NONE) {
                    return row;
                }
                row = 10 * row + who + 1;
                left = without(left, who);
            }
            return row;
        }

        private int placeOf(int person) {
            int left = large;
            for (int step = 0; step < people; step++) {
                int who = leastOf(mayBeTaken(left));
                if (who == NONE || who == person) {
                    return who == NONE ? NONE : step;
                }
                left = without(left, who);
            }
            return NONE;
        }

        /** A PLACE as it is weighed: not to be taken is best. */
        private int worthOf(int person) {
            int at = placeOf(person);
            return at == NONE ? NOT_TAKEN_IS_WORTH : at;
        }

        /**
         * Who is left of these behind THE FALL. All that MAY are taken at once: who MAY still MAY
         * when somebody else has been taken, so that the order changes nothing in who is left.
         */
        private int leftBehind(int atLarge) {
            int left = atLarge;
            for (int step = 0; step < people; step++) {
                int may = mayBeTaken(left);
                if (may == 0) {
                    return left;
                }
                left &= ~may;
            }
            return left;
        }

        private boolean isTaken(int person, int atLarge) {
            return isIn(atLarge & ~leftBehind(atLarge), person);
        }

        private int countTaken(int atLarge) {
            return Integer.bitCount(atLarge) - Integer.bitCount(leftBehind(atLarge));
        }
    }
}
