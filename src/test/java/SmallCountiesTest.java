/**
 * Every county of up to three people of DEED 0 or 2 and of every KIND, with every row of who FEEDS whom:
 * all that is asked of it, against the model. With a SHAM the GRADES are 0, 2 and 4.
 */
public final class SmallCountiesTest {
    private static final String[] PEOPLE = {"P00", "P01", "P02", "P03", "P20", "P21", "P22", "P23"};
    private static final int[][] PAIRS = {{0, 1}, {1, 0}, {0, 2}, {2, 0}, {1, 2}, {2, 1}};

    private static final Due due = new Due();

    public static void main(String[] args) {
        tell("A", 0);
        due.end();
    }

    private static void tell(String text, int people) {
        int pairs = people * (people - 1);
        for (int fed = 0; fed < 1 << pairs && !due.anyWrong(); fed++) {
            StringBuilder told = new StringBuilder(text);
            for (int i = 0; i < pairs; i++) {
                if ((fed >> i & 1) == 1) {
                    told.append('F').append(PAIRS[i][0]).append(PAIRS[i][1]);
                }
            }
            compare(told.toString(), people);
        }
        for (int i = 0; people < 3 && i < PEOPLE.length; i++) {
            tell(text + PEOPLE[i], people + 1);
        }
    }

    private static void compare(String text, int people) {
        ArrestOrder x = Scenes.of(text);
        Model y = new Model();
        for (int i = 0; i < text.length(); i++) {
            y.write(text.charAt(i));
        }
        y.county();
        if (people > 1) {
            x.see(0, 1);
            y.see(0, 1);
        }
        due.is("fall() of " + text, y.fall(), x.fall());
        due.is("last() of " + text, y.last(), x.last());
        for (int p = 0; p < people; p++) {
            String of = "(" + p + ") of " + text;
            due.is("place" + of, y.place(p), x.place(p));
            due.is("toFeed" + of, y.toFeed(p, 1), x.toFeed(p, 1));
            due.is("giveUp" + of, y.giveUp(p), x.giveUp(p));
            due.is("claim" + of, y.claim(p), x.claim(p));
            due.is("did" + of, y.did(p), x.did(p));
            due.is("share, upper" + of, y.share(p, true), x.share(p, true));
            due.is("share, lower" + of, y.share(p, false), x.share(p, false));
            due.is("toss, upper" + of, y.toss(p, true), x.toss(p, true));
            due.is("toss, lower" + of, y.toss(p, false), x.toss(p, false));
            for (int q = 0; q < p; q++) {
                compareRests(text, x, y, p, q);
            }
        }
    }

    /** There is always a rest: NOTES.md says why. So NONE is never told. */
    private static void compareRests(String text, ArrestOrder x, Model y, int p, int q) {
        String of = "rests(" + p + ", " + q + ") of " + text;
        due.is(of, y.rests(p, q, 0), x.rests(p, q, 0));
        due.is(of + ", the first", y.rests(p, q, 1), x.rests(p, q, 1));
        due.holds(of + " are not none", x.rests(q, p, 0) > 0 && x.rests(q, p, 1) >= 0);
    }
}
