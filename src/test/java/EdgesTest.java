import java.math.BigInteger;

/**
 * Promise by promise the last value that is taken (RefusalsTest has the first that is refused), what is
 * empty and what is full, the least and the greatest answer, and where a row or a number wraps around.
 */
public final class EdgesTest {
    private static final int UNKNOWN = Scenes.UNKNOWN, BAD = Scenes.BAD, LATE = Scenes.LATE, FULL = Scenes.FULL,
        NONE = Scenes.NONE;
    private static final int ALL_DEEDS = 1023, EVERYBODY = 127;
    /** Each feeds the next one, the last one the first. */
    private static final String RING = "F01F12F23F34F45F56F60";
    private static final String SEVEN = Scenes.alike("P50", 7);
    private static final int[] EDGE_BYTES = {0, 1, 127, 128, 254, 255};

    private static final Due due = new Due();

    public static void main(String[] args) {
        nobody();
        texts();
        counties();
        abouts();
        everyNumberOfPeople();
        everyDeedAndKind();
        gradesSideBySide();
        hiding();
        takenLetGoAndDead();
        feeding();
        grading();
        days();
        actsThatAreForgotten();
        actsThatAreUndone();
        falls();
        toFeed();
        giveUp();
        claims();
        shares();
        seen();
        did();
        seenOfPeopleThatAreGone();
        rests();
        tosses();
        seeds();
        daysByTheSeed();
        slots();
        due.end();
    }

    // ---- 1 to 7: the county

    private static void nobody() {
        ArrestOrder x = new ArrestOrder();
        for (int what = 0; what <= 8; what++) {
            due.is("1: about(" + what + ")", 0, x.about(what));
        }
        due.is("1: wipe()", 0, x.wipe());
        due.is("1: fault()", 0, x.fault());
        due.is("1: county()", LATE, x.county());
        due.is("1: undo()", LATE, x.undo());
        due.is("1: fall()", 0, x.fall());
        due.is("1: last()", 0, x.last());
        due.is("1: unsee()", 0, x.unsee());
        due.is("1: days(1)", 0, x.days(1));
        due.is("1: days(30)", 0, x.days(30));
        due.is("1: again(0)", LATE, x.again(0));
        due.is("1: keep(0)", 0, x.keep(0));
        due.is("1: again(1)", LATE, x.again(1));
        due.is("1: day()", NONE, x.day());
        due.is("1: THE DAY", 1, x.about(5));
        due.is("1: keep(1)", 1, x.keep(1));
        due.is("1: again(0)", 0, x.again(0));
        due.is("1: again(1)", 1, x.again(1));
    }

    private static void texts() {
        ArrestOrder x = new ArrestOrder();
        for (int round = 0; round < 3; round++) {
            for (int length = 1; length <= 48; length++) {
                int letter = EDGE_BYTES[length % EDGE_BYTES.length];
                due.is("2: write(" + letter + ")", length, x.write(letter));
                due.is("6: bytes", length, x.about(8));
            }
            due.is("2: a 49th byte", FULL, x.write(0));
            due.is("2: a 49th byte", FULL, x.write(255));
            due.is("2: BAD is told ahead of FULL", BAD, x.write(256));
            due.is("2: BAD is told ahead of FULL", BAD, x.write(-1));
            due.is("3: wipe() of the full text", 48, x.wipe());
            due.is("3: wipe() of the empty text", 0, x.wipe());
            due.is("6: bytes of the empty text", 0, x.about(8));
        }
        due.is("3: one byte", 1, x.write('A'));
        due.is("3: what was wiped is gone", NONE, x.fault());
        due.is("3: wipe() of one byte", 1, x.wipe());
        Scenes.make(x, "AP70");
        x.wipe();
        due.is("3: THE COUNTY stays", 7, x.person(0, 0));
    }

    private static void counties() {
        for (int people = 0; people <= 7; people++) {
            ArrestOrder x = new ArrestOrder();
            Scenes.put(x, Scenes.alike("P11", people));
            due.is("5: county() of " + people, people, x.county());
            due.is("5: all are at large", (1 << people) - 1, x.about(1));
            due.is("5: the same text again", people, x.county());
        }
        ArrestOrder longest = new ArrestOrder();
        Scenes.put(longest, Scenes.LONGEST);
        due.is("5: county() of 46 bytes", 7, longest.county());
        due.is("5: its last pair", 32, longest.person(6, 3));
        due.is("5: a 47th byte", 47, longest.write('F'));
        due.is("5: county() of 47 bytes", LATE, longest.county());
        longest.write('0');
        due.is("5: county() of 48 bytes", LATE, longest.county());
        countyMadeAnew();
    }

    private static void countyMadeAnew() {
        ArrestOrder x = Scenes.of(SEVEN + RING);
        for (int count = 1; count <= 6; count++) {
            x.see(0, 1);
        }
        for (int person = 0; person < 7; person++) {
            x.die(person);
            x.grade(person, 9);
        }
        x.day();
        x.keep(0);
        x.keep(1);
        x.seed(Long.MIN_VALUE);
        due.is("5: the same county anew", 7, x.county());
        int[] want = {7, EVERYBODY, 0, EVERYBODY, 0, 0, 0, 6, 43};
        for (int what = 0; what < want.length; what++) {
            due.is("5: about(" + what + ") behind a county made anew", want[what], x.about(what));
        }
        due.is("5: DEED", 5, x.person(6, 0));
        due.is("5: undo()", LATE, x.undo());
        due.is("5: SEEN is full as it was", FULL, x.see(0, 1));
        due.is("5: THE SEED stays", Long.MIN_VALUE, x.seed(0));
        due.is("5: slot 0 is gone", LATE, x.again(0));
        due.is("5: slot 1 is gone", LATE, x.again(1));
        kindsMadeAnew(x);
        x.keep(1);
        Scenes.make(x, "A");
        due.is("5: nobody is left of seven", 0, x.about(1));
        due.is("5: there is no person 0", UNKNOWN, x.person(0, 0));
        due.is("5: slot 1 is gone", LATE, x.again(1));
    }

    /** Nothing of a county shines through the next one. */
    private static void kindsMadeAnew(ArrestOrder x) {
        int[][] kinds = {{3, 2, 1, 0}, {0, 1, 2, 3}, {1, 0, 3, 2}};
        for (int[] row : kinds) {
            Scenes.make(x, "AP9" + row[0] + "P9" + row[1] + "P0" + row[2] + "P0" + row[3]);
            for (int person = 0; person < 4; person++) {
                due.is("5: KIND of " + person, row[person], x.person(person, 1));
                due.is("5: DEED of " + person, person < 2 ? 9 : 0, x.person(person, 0));
                due.is("5: whom " + person + " feeds", 0, x.person(person, 3));
            }
        }
    }

    private static void aboutIs(ArrestOrder x, int what, int want) {
        due.is("6: about(" + what + ")", want, x.about(what));
    }

    private static void abouts() {
        ArrestOrder x = Scenes.of(SEVEN);
        aboutIs(x, 0, 7);
        aboutIs(x, 1, EVERYBODY);
        aboutIs(x, 2, EVERYBODY);
        aboutIs(x, 3, 0);
        aboutIs(x, 4, 0);
        ArrestOrder ring = Scenes.of(SEVEN + RING);
        aboutIs(ring, 2, 0);
        aboutIs(ring, 3, EVERYBODY);
        for (int person = 0; person < 7; person++) {
            ring.die(person);
        }
        aboutIs(ring, 1, 0);
        aboutIs(ring, 2, 0);
        aboutIs(ring, 3, 0);
        aboutIs(ring, 4, EVERYBODY);
        ArrestOrder fedByOne = Scenes.of(SEVEN + "F01F02F03F04F05F06");
        for (int person = 1; person < 7; person++) {
            fedByOne.die(person);
        }
        due.is("6: who is HIDDEN is so, dead or not", 126, fedByOne.about(3));
        for (int day = 1; day <= 30; day++) {
            x.day();
            aboutIs(x, 5, day);
            aboutIs(x, 6, Math.min(day, 14));
        }
    }

    /** In a county of so many all person's calls take 0 and the last one, and not the one behind it. */
    private static void everyNumberOfPeople() {
        for (int n = 1; n <= 7; n++) {
            String text = Scenes.alike("P50", n);
            for (int p = 0; p < n; p++) {
                String of = " of " + p + " of " + n;
                ArrestOrder x = Scenes.of(text);
                due.is("7: DEED" + of, 5, x.person(p, 0));
                due.is("16: place" + of, p, x.place(p));
                due.is("18: toFeed" + of, n == 1 ? NONE : 2, x.toFeed(p, 0));
                due.is("19: giveUp" + of, 0, x.giveUp(p));
                due.is("20: claim" + of, 0, x.claim(p));
                due.is("21: share" + of, 1, x.share(p, true));
                due.is("24: did" + of, ALL_DEEDS, x.did(p));
                due.is("26: toss" + of, 1, x.toss(p, true));
                due.is("12: grade" + of, 5, x.grade(p, 9));
                x.undo();
                due.is("8: take" + of, n - 1, x.take(p));
                due.is("9: free" + of, n, x.free(p));
                due.is("10: die" + of, n - 1, x.die(p));
            }
            everyPairOf(n, text);
            theOneBehind(n, text);
        }
    }

    private static void everyPairOf(int n, String text) {
        ArrestOrder x = Scenes.of(text);
        for (int p = 0; p < n; p++) {
            for (int q = 0; q < n; q++) {
                String of = "(" + p + ", " + q + ") of " + n;
                boolean one = p == q;
                x.unsee();
                due.is("11: feed" + of, one ? BAD : 1, x.feed(p, q));
                due.is("11: feed" + of, one ? BAD : 0, x.feed(p, q));
                due.is("22: see" + of, one ? BAD : 1, x.see(p, q));
            }
        }
    }

    private static void theOneBehind(int n, String text) {
        ArrestOrder x = Scenes.of(text);
        int[] answers = {x.person(n, 0), x.take(n), x.free(n), x.die(n), x.feed(n, 0), x.feed(0, n), x.grade(n, 0),
            x.place(n), x.toFeed(n, 0), x.giveUp(n), x.claim(n), x.share(n, true), x.see(n, 0), x.see(0, n),
            x.did(n), x.rests(n, 0, 0), x.rests(0, n, 0), x.toss(n, true)};
        for (int i = 0; i < answers.length; i++) {
            due.is("the person behind the last of " + n + ", call " + i, UNKNOWN, answers[i]);
        }
    }

    private static void everyDeedAndKind() {
        for (int deed = 0; deed <= 9; deed++) {
            int[] grades = {deed, deed, deed + 2, 0};
            for (int kind = 0; kind <= 3; kind++) {
                String text = "AP" + deed + kind;
                ArrestOrder x = Scenes.of(text);
                due.is("7: DEED of " + text, deed, x.person(0, 0));
                due.is("7: KIND of " + text, kind, x.person(0, 1));
                due.is("7: GRADE of " + text, grades[kind], x.person(0, 2));
                due.is("7: whom it feeds, " + text, 0, x.person(0, 3));
            }
        }
        ArrestOrder all = Scenes.of(SEVEN + "F01F02F03F04F05F06");
        due.is("7: 0 feeds all others", 126, all.person(0, 3));
        ArrestOrder last = Scenes.of(SEVEN + "F60F61F62F63F64F65");
        due.is("7: 6 feeds all others", 63, last.person(6, 3));
    }

    // ---- 8 to 14: acts

    private static void mayIs(String text, int want) {
        due.is("8: who may be taken of " + text, want, Scenes.of(text).about(2));
    }

    /** A greater GRADE hinders, an equal one does not. */
    private static void gradesSideBySide() {
        mayIs("AP50P60", 2);
        mayIs("AP50P50", 3);
        mayIs("AP50P40", 1);
        mayIs("AP90P72", 3);
        mayIs("AP90P82", 2);
        mayIs("AP90P62", 1);
        mayIs("AP02P20", 3);
        mayIs("AP02P10", 1);
        mayIs("AP02P30", 2);
        mayIs("AP92P90", 1);
        mayIs("AP93P00", 3);
        mayIs("AP93P01", 3);
        mayIs("AP93P10", 2);
        mayIs("AP93P02", 2);
        mayIs("AP93P03", 3);
        mayIs("AP90P91", 3);
        for (String text : new String[] {"AP50P60", "AP50P50", "AP50P40"}) {
            int may = Scenes.of(text).about(2);
            due.is("8: take(0) of " + text, Scenes.isIn(may, 0) ? 1 : LATE, Scenes.of(text).take(0));
            due.is("8: take(1) of " + text, Scenes.isIn(may, 1) ? 1 : LATE, Scenes.of(text).take(1));
        }
    }

    /** 1 feeds 0: hidden while 1 is at large, not when it is taken, dead, or feeds it no more. */
    private static void hiding() {
        ArrestOrder x = Scenes.of("AP50P50F10");
        due.is("8: take(0), hidden", LATE, x.take(0));
        due.is("8: take(1)", 1, x.take(1));
        due.is("6: hidden by nobody at large", 0, x.about(3));
        x.free(1);
        due.is("6: hidden by one that is let go", 1, x.about(3));
        x.die(1);
        due.is("6: hidden by no dead one", 0, x.about(3));
        x.undo();
        x.feed(1, 0);
        due.is("6: fed no more", 0, x.about(3));
        x.feed(0, 1);
        due.is("6: who feeds is not hidden by that", 2, x.about(3));
        for (int kind = 0; kind <= 3; kind++) {
            String text = "AP0" + kind + "P00F10";
            due.is("6: HIDDEN of " + text, kind == 1 ? 0 : 1, Scenes.of(text).about(3));
        }
        ArrestOrder two = Scenes.of("AP50P50P50F10F20");
        two.take(1);
        due.is("6: one feeder is enough", 1, two.about(3));
        two.take(2);
        due.is("6: the last feeder is taken", 0, two.about(3));
        due.is("8: take(0)", 0, two.take(0));
    }

    private static void takenLetGoAndDead() {
        ArrestOrder x = Scenes.of(SEVEN);
        for (int person = 6; person >= 0; person--) {
            due.is("8: take(" + person + ")", person, x.take(person));
        }
        due.is("6: nobody is at large", 0, x.about(1));
        for (int person = 0; person < 7; person++) {
            due.is("9: free(" + person + ")", person + 1, x.free(person));
            due.is("9: free(" + person + "), at large", LATE, x.free(person));
        }
        x.take(3);
        for (int person = 0; person < 7; person++) {
            due.is("10: die(" + person + ")", person < 3 ? 5 - person : 6 - person, x.die(person));
            due.is("10: die(" + person + "), dead", LATE, x.die(person));
            due.is("9: free(" + person + "), dead", LATE, x.free(person));
            due.is("8: take(" + person + "), dead", LATE, x.take(person));
        }
        due.is("6: all are dead", EVERYBODY, x.about(4));
    }

    private static void feeding() {
        ArrestOrder x = Scenes.of(SEVEN);
        x.take(6);
        x.die(5);
        for (int p = 0; p < 7; p++) {
            int fed = 0;
            for (int q = 0; q < 7; q++) {
                if (q != p) {
                    fed |= 1 << q;
                    due.is("11: feed(" + p + ", " + q + ")", 1, x.feed(p, q));
                    due.is("11: whom " + p + " feeds", fed, x.person(p, 3));
                }
            }
        }
        due.is("6: all are hidden", EVERYBODY, x.about(3));
        for (int p = 0; p < 7; p++) {
            for (int q = 0; q < 7; q++) {
                if (q != p) {
                    due.is("11: feed(" + p + ", " + q + ") no more", 0, x.feed(p, q));
                }
            }
            due.is("11: whom " + p + " feeds", 0, x.person(p, 3));
        }
        due.is("6: nobody is hidden", 0, x.about(3));
    }

    private static void grading() {
        for (int was = 0; was <= 9; was++) {
            for (int deed = -1; deed <= 10; deed++) {
                ArrestOrder x = Scenes.of("AP50P" + was + "2P50");
                int want = deed < 0 || deed > 9 ? BAD : deed == was ? LATE : was;
                due.is("12: grade(1, " + deed + ") from " + was, want, x.grade(1, deed));
                int then = want < 0 ? was : deed;
                due.is("12: DEED", then, x.person(1, 0));
                due.is("12: GRADE", then + 2, x.person(1, 2));
                due.is("12: ACTS", want < 0 ? 0 : 1, x.about(6));
                due.is("12: DEED of one beside", 5, x.person(0, 0));
                due.is("12: DEED of one beside", 5, x.person(2, 0));
            }
        }
        ArrestOrder away = Scenes.of("AP50P60");
        away.take(1);
        due.is("12: one that is taken", 6, away.grade(1, 0));
        away.die(1);
        due.is("12: one that is dead", 0, away.grade(1, 9));
    }

    private static void days() {
        ArrestOrder x = Scenes.of(SEVEN);
        for (int day = 1; day <= 40; day++) {
            due.is("13: day " + day, day <= 7 ? day - 1 : NONE, x.day());
            due.is("13: THE DAY", day, x.about(5));
            due.is("13: ACTS", Math.min(day, 14), x.about(6));
        }
        due.is("13: nobody in the empty county", NONE, Scenes.of("A").day());
        ArrestOrder hidden = Scenes.of("AP90P80F10");
        due.is("13: the worst one is hidden", NONE, hidden.day());
        due.is("13: THE DAY is one more", 1, hidden.about(5));
        due.is("13: it is an act", 0, hidden.undo());
        due.is("13: THE DAY is as it was", 0, hidden.about(5));
    }

    /** So many acts of which the first ones are forgotten, from none to more than three rows. */
    private static void actsThatAreForgotten() {
        for (int acts = 0; acts <= 45; acts++) {
            ArrestOrder x = Scenes.of("AP00P90");
            for (int act = 1; act <= acts; act++) {
                x.grade(0, act % 10);
            }
            int kept = Math.min(acts, 14);
            due.is("14: ACTS of " + acts, kept, x.about(6));
            for (int left = kept - 1; left >= 0; left--) {
                due.is("14: undo() of " + acts, left, x.undo());
                due.is("14: DEED of " + acts, (acts - kept + left) % 10, x.person(0, 0));
            }
            due.is("14: undo() of " + acts + ", none is left", LATE, x.undo());
            due.is("14: ACTS", 0, x.about(6));
            due.is("14: DEED stays", (acts - kept) % 10, x.person(0, 0));
        }
        actsBehindAnUndo();
    }

    private static void actsBehindAnUndo() {
        for (int before = 1; before <= 30; before++) {
            ArrestOrder x = Scenes.of("AP00P90");
            for (int act = 1; act <= before; act++) {
                x.day();
            }
            x.undo();
            x.die(0);
            int kept = Math.min(before, 14);
            due.is("14: an act in the place of one undone", kept, x.about(6));
            due.is("14: undo()", kept - 1, x.undo());
            due.is("14: nobody is dead", 0, x.about(4));
            due.is("14: THE DAY", before - 1, x.about(5));
            for (int left = kept - 2; left >= 0; left--) {
                due.is("14: undo()", left, x.undo());
            }
            due.is("14: THE DAY", before - kept, x.about(5));
            due.is("14: undo(), none is left", LATE, x.undo());
        }
    }

    private static void actsThatAreUndone() {
        ArrestOrder x = Scenes.of("AP50P70P30F02");
        x.take(1);
        String taken = Scenes.acted(x);
        x.die(1);
        due.is("14: undo() of the death of one that was taken", 1, x.undo());
        due.holds("14: it is taken, as it was", taken.equals(Scenes.acted(x)));
        due.is("9: so it can be let go", 3, x.free(1));
        due.is("14: undo() of that", 1, x.undo());
        due.is("14: at large", 5, x.about(1));
        due.is("14: undo() of the taking", 0, x.undo());
        due.is("14: at large", 7, x.about(1));
        x.die(1);
        due.is("14: undo() of the death of one at large", 0, x.undo());
        due.is("14: at large", 7, x.about(1));
        due.is("14: nobody is dead", 0, x.about(4));
        x.feed(0, 2);
        due.is("14: undo() of who was fed no more", 0, x.undo());
        due.is("14: it feeds it", 4, x.person(0, 3));
        x.feed(2, 0);
        due.is("14: undo() of who was fed", 0, x.undo());
        due.is("14: it does not feed it", 0, x.person(2, 3));
        x.day();
        due.is("14: undo() of a day", 0, x.undo());
        due.is("14: at large", 7, x.about(1));
        due.is("14: THE DAY", 0, x.about(5));
        x.see(0, 1);
        x.keep(0);
        x.seed(4);
        x.days(30);
        due.is("14: what is seen, kept and drawn is no act", LATE, x.undo());
        due.is("14: SEEN stays", 1, x.about(7));
    }

    // ---- 15 to 21: the fall

    private static void fallIs(String text, int row, int left) {
        ArrestOrder x = Scenes.of(text);
        due.is("15: fall() of " + text, row, x.fall());
        due.is("17: last() of " + text, left, x.last());
        for (int person = 0; person < x.about(0); person++) {
            int at = Integer.toString(row).indexOf('1' + person);
            due.is("16: place(" + person + ") of " + text, at < 0 ? NONE : at, x.place(person));
        }
    }

    private static void falls() {
        fallIs("A", 0, 0);
        fallIs("AP00", 1, 0);
        fallIs(SEVEN, 1234567, 0);
        fallIs("AP00P10P20P30P40P50P60", 7654321, 0);
        fallIs("AP60P50P40P30P20P10P00", 1234567, 0);
        fallIs("AP93P93P93P93P93P93P93", 1234567, 0);
        fallIs(SEVEN + RING, 0, EVERYBODY);
        fallIs(SEVEN + "F10F21F32F43F54F65", 7654321, 0);
        fallIs(SEVEN + "F56F65", 12345, 96);
        fallIs("AP91P91P91P91P91P91P91" + RING, 1234567, 0);
        fallIs("AP91P90P90P90P90P90P90" + RING, 1234567, 0);
        fallIs("AP90P90P90P90P90P90P91" + RING, 7123456, 0);
        fallIs("AP00P90F01", 0, 3);
        fallIs("AP00P91F01", 21, 0);
        ArrestOrder x = Scenes.of(SEVEN);
        for (int person = 0; person < 6; person++) {
            x.die(person);
        }
        due.is("15: the last one alone", 7, x.fall());
        due.is("16: its place", 0, x.place(6));
        due.is("16: place of a dead one", NONE, x.place(5));
        x.take(6);
        due.is("15: nobody is at large", 0, x.fall());
        due.is("16: place of one that is taken", NONE, x.place(6));
        due.is("17: nobody is left", 0, x.last());
    }

    private static void toFeedIs(String text, int person, int count, int row) {
        ArrestOrder x = Scenes.of(text);
        due.is("18: toFeed(" + person + ", 0) of " + text, count, x.toFeed(person, 0));
        due.is("18: toFeed(" + person + ", 1) of " + text, row, x.toFeed(person, 1));
    }

    private static void toFeed() {
        toFeedIs(SEVEN + RING, 0, 0, 0);
        toFeedIs("AP00P90", 1, 1, 1);
        toFeedIs("AP90P00", 1, 1, 10);
        toFeedIs(SEVEN + "F56", 6, 1, 65);
        toFeedIs(SEVEN + "F65", 6, 1, 56);
        toFeedIs(SEVEN, 0, 2, 110);
        toFeedIs(SEVEN, 1, 2, 110);
        toFeedIs(SEVEN, 6, 2, 660);
        toFeedIs("AP50P50P50F10", 2, 2, 102);
        toFeedIs("AP01P01P01P01P01P00P00", 5, 2, 5665);
        toFeedIs("AP01P01P01P01P01P00P00", 6, 2, 5665);
        toFeedIs("AP01P01P01P01P01P00P00", 0, NONE, NONE);
        toFeedIs("AP01P01P01P01P01P01P00", 6, NONE, NONE);
        toFeedIs("AP50", 0, NONE, NONE);
        ArrestOrder x = Scenes.of("AP50P50P90");
        x.take(2);
        due.is("18: of one that is taken", 0, x.toFeed(2, 0));
        due.is("18: of one that is taken, the row", 0, x.toFeed(2, 1));
        due.is("18: by those at large", 110, x.toFeed(0, 1));
        x.die(1);
        due.is("18: of a dead one", 0, x.toFeed(1, 0));
        due.is("18: of a dead one, the row", 0, x.toFeed(1, 1));
        due.is("18: alone at large", NONE, x.toFeed(0, 0));
        due.is("18: alone at large, the row", NONE, x.toFeed(0, 1));
    }

    private static void giveUp() {
        String fedByAll = "AP90P00P00P00P00P00P00F10F20F30F40F50F60";
        due.is("19: all others", 126, Scenes.of(fedByAll).giveUp(0));
        due.is("19: one, that stands in the way of all", 1, Scenes.of(fedByAll).giveUp(6));
        String lastOne = "AP00P00P00P00P00P00P90F06F16F26F36F46F56";
        due.is("19: all others", 63, Scenes.of(lastOne).giveUp(6));
        due.is("19: the greatest one alone", 64, Scenes.of(lastOne).giveUp(0));
        due.is("19: the least of a ring", 1, Scenes.of(SEVEN + RING).giveUp(6));
        due.is("19: but itself", 2, Scenes.of(SEVEN + RING).giveUp(0));
        due.is("19: nobody", 0, Scenes.of("AP50").giveUp(0));
        String threeOrOne = "AP50P50P50P50P50F40F14F24F34F01F02F03";
        due.is("19: one, where three are less as a number", 16, Scenes.of(threeOrOne).giveUp(0));
        ArrestOrder x = Scenes.of(fedByAll);
        x.die(1);
        x.die(6);
        due.is("19: none that are not at large", 4 + 8 + 16 + 32, x.giveUp(0));
        due.is("19: giveUp of a dead one", LATE, x.giveUp(6));
        due.is("19: giveUp behind the last one", UNKNOWN, x.giveUp(7));
        ArrestOrder taken = Scenes.of("AP50P60");
        taken.take(1);
        due.is("19: giveUp of one that is taken", LATE, taken.giveUp(1));
        due.is("19: the last one at large", 0, taken.giveUp(0));
    }

    /** 0 feeds 1: it is never taken once it has done more than 0, else it comes last at DEED 0. */
    private static void claims() {
        for (int deed = 0; deed <= 9; deed++) {
            String text = "AP" + deed + "0P00F01";
            due.is("20: claim(1) of " + text, deed < 9 ? deed + 1 : 0, Scenes.of(text).claim(1));
            String sham = "AP" + deed + "0P02F01";
            due.is("20: claim(1) of " + sham, Math.max(0, deed - 1), Scenes.of(sham).claim(1));
            String loud = "AP" + deed + "0P01F01";
            due.is("20: claim(1) of " + loud, 0, Scenes.of(loud).claim(1));
            String child = "AP" + deed + "0P93F01";
            due.is("20: claim(1) of " + child, 0, Scenes.of(child).claim(1));
        }
        due.is("20: behind all but an equal one with a greater number", 0, Scenes.of("AP50P00").claim(0));
        due.is("20: an equal one with a lesser number goes ahead", 0, Scenes.of("AP00P50").claim(1));
        ArrestOrder x = Scenes.of("AP80P00F01");
        x.die(0);
        due.is("20: who is dead hides nobody", 0, x.claim(1));
        due.is("20: claim of a dead one", LATE, x.claim(0));
    }

    private static void shareIs(ArrestOrder x, int person, int above, int below) {
        due.is("21: share(" + person + ", true)", above, x.share(person, true));
        due.is("21: share(" + person + ", false)", below, x.share(person, false));
    }

    private static void shares() {
        for (int person = 0; person < 7; person++) {
            shareIs(Scenes.of(SEVEN), person, 1, 1);
        }
        // Behind k of the others it makes k fewer: (1 - 1 - 2 - 3 - 4 - 5 - 6) / 7.
        String fedByAll = "AP90P00P00P00P00P00P00F10F20F30F40F50F60";
        shareIs(Scenes.of(fedByAll), 0, -20, 7);
        // Ahead of 0 one more (1/2), just behind 0 alone one fewer (1/42).
        shareIs(Scenes.of(fedByAll), 6, 10, 21);
        shareIs(Scenes.of("AP90P00F10"), 0, 0, 1);
        shareIs(Scenes.of("AP90P00P00F10F20"), 0, -2, 3);
        shareIs(Scenes.of("AP90P00P00F10F20"), 2, 1, 3);
        ArrestOrder gap = Scenes.of(fedByAll);
        gap.die(3);
        shareIs(gap, 0, -7, 3);
        ArrestOrder x = Scenes.of("AP90P80");
        x.take(0);
        shareIs(x, 0, 0, 1);
        shareIs(x, 1, 1, 1);
        x.die(0);
        shareIs(x, 0, 0, 1);
        x.take(1);
        shareIs(x, 1, 0, 1);
    }

    // ---- 22 to 24: seen

    private static void seen() {
        ArrestOrder x = Scenes.of(SEVEN);
        for (int round = 0; round < 3; round++) {
            due.is("23: unsee() of nothing", 0, x.unsee());
            for (int count = 1; count <= 6; count++) {
                due.is("22: see(" + (count - 1) + ", " + count + ")", count, x.see(count - 1, count));
                due.is("6: SEEN", count, x.about(7));
            }
            due.is("22: a seventh", FULL, x.see(6, 0));
            due.is("22: BAD is told ahead of FULL", BAD, x.see(6, 6));
            due.is("22: UNKNOWN is told ahead of FULL", UNKNOWN, x.see(7, 7));
            due.is("24: all six are looked at", 0x03f, x.did(6));
            due.is("23: unsee() of all six", 6, x.unsee());
            due.is("6: SEEN", 0, x.about(7));
            due.is("24: nothing is seen", ALL_DEEDS, x.did(6));
        }
        x.see(0, 1);
        due.is("23: unsee() of one", 1, x.unsee());
        x.see(0, 1);
        x.see(0, 1);
        due.is("22: the same pair counts again", 3, x.see(0, 1));
        due.is("22: and the other way round", 4, x.see(1, 0));
        due.is("24: which cannot be so", 0, x.did(0));
    }

    private static void didIs(String text, int one, int other, int who, int want) {
        ArrestOrder x = Scenes.of(text);
        x.see(one, other);
        due.is("24: did(" + who + ") of " + text + ", " + one + " ahead of " + other, want, x.did(who));
    }

    private static void did() {
        didIs("AP00P90", 0, 1, 1, 0x001);
        didIs("AP80P00", 1, 0, 1, 0x200);
        didIs("AP90P00", 1, 0, 1, 0);
        didIs("AP90P00", 0, 1, 1, ALL_DEEDS);
        didIs("AP00P90", 1, 0, 1, 0x3fe);
        didIs("AP90P02", 1, 0, 1, 0x300);
        didIs("AP90P93", 0, 1, 1, ALL_DEEDS);
        didIs("AP90P93", 1, 0, 1, 0);
        didIs("AP90P93", 0, 1, 0, ALL_DEEDS);
        didIs("AP93P00", 1, 0, 1, 0x3fe);
        ArrestOrder x = Scenes.of("AP50P70");
        x.see(1, 0);
        x.die(0);
        due.is("24: the other one is not taken", ALL_DEEDS, x.did(0));
        x.take(1);
        due.is("24: the one is not taken in this fall", 0, x.did(1));
    }

    private static void seenOfPeopleThatAreGone() {
        ArrestOrder x = Scenes.of(SEVEN);
        x.see(6, 0);
        due.is("24: seven", 0, x.did(1));
        due.is("24: seven", 0x3c0, x.did(6));
        Scenes.make(x, Scenes.alike("P50", 6));
        due.is("24: six, so 6 is gone", ALL_DEEDS, x.did(0));
        due.is("24: it is SEEN all the same", 1, x.about(7));
        due.is("22: and counts", 2, x.see(1, 0));
        due.is("24: what is SEEN of six is looked at", 0x3c0, x.did(1));
        Scenes.make(x, "AP50");
        due.is("24: of both pairs one is gone", ALL_DEEDS, x.did(0));
        Scenes.make(x, "A");
        due.is("24: nobody", UNKNOWN, x.did(0));
        due.is("22: nobody", UNKNOWN, x.see(1, 0));
        Scenes.make(x, SEVEN);
        due.is("24: 0 behind 1 and 6", 0x01f, x.did(0));
        due.is("23: unsee()", 2, x.unsee());
    }

    // ---- 25 to 28: rests, tosses

    private static void restsAre(String text, int one, int other, int count, int first) {
        ArrestOrder x = Scenes.of(text);
        due.is("25: rests(" + one + ", " + other + ", 0) of " + text, count, x.rests(one, other, 0));
        due.is("25: rests(" + one + ", " + other + ", 1) of " + text, first, x.rests(one, other, 1));
    }

    /** Equal ones rest where neither feeds, and where each feeds the other one. */
    private static void rests() {
        for (int n = 2; n <= 7; n++) {
            restsAre(Scenes.alike("P50", n), 0, n - 1, 2, 0);
            restsAre(Scenes.alike("P50", n), n - 1, 0, 2, 0);
        }
        restsAre("AP50P90", 0, 1, 1, 20);
        restsAre("AP50P90", 1, 0, 1, 2);
        restsAre("AP51P51", 0, 1, 1, 0);
        restsAre("AP00P00P00P00P00P00P90", 0, 6, 1, 70);
        restsAre("AP00P00P00P00P00P00P90", 6, 0, 1, 7);
        restsAre(SEVEN + RING, 0, 6, 1, 0);
        ArrestOrder x = Scenes.of("AP50P50P90");
        x.die(2);
        due.is("25: the dead hide nobody", 2, x.rests(0, 1, 0));
        due.is("25: rests(0, 2, 0), dead", LATE, x.rests(0, 2, 0));
        due.is("25: rests(2, 0, 1), dead", LATE, x.rests(2, 0, 1));
        due.is("25: BAD is told ahead of LATE", BAD, x.rests(2, 2, 0));
        due.is("25: BAD is told ahead of LATE", BAD, x.rests(2, 0, 2));
        due.is("25: UNKNOWN is told ahead of BAD", UNKNOWN, x.rests(3, 3, 2));
        x.take(1);
        due.is("25: rests(0, 1, 0), taken", LATE, x.rests(0, 1, 0));
    }

    private static void tossIs(ArrestOrder x, int person, int above) {
        due.is("26: toss(" + person + ", true)", above, x.toss(person, true));
        due.is("26: toss(" + person + ", false)", 1, x.toss(person, false));
    }

    private static void tosses() {
        ArrestOrder x = Scenes.of(SEVEN + "F01F10");
        for (int person = 0; person < 7; person++) {
            tossIs(x, person, person < 2 ? 0 : 1);
        }
        x.take(6);
        tossIs(x, 6, 0);
        x.die(5);
        tossIs(x, 5, 0);
        tossIs(Scenes.of("AP50"), 0, 1);
        tossIs(Scenes.of("AP00P90F01"), 0, 0);
        tossIs(Scenes.of("AP00P90F01"), 1, 0);
    }

    private static long drawnBehind(long seed, int times) {
        BigInteger x = BigInteger.valueOf(seed);
        for (int i = 0; i < times; i++) {
            x = x.multiply(BigInteger.valueOf(6364136223846793005L)).add(BigInteger.valueOf(1442695040888963407L));
        }
        return x.longValue();
    }

    private static void seeds() {
        ArrestOrder x = new ArrestOrder();
        long was = 0;
        for (long v : new long[] {1, -1, Long.MAX_VALUE, Long.MIN_VALUE, 1L << 32, 1L << 31, 0, 7}) {
            due.is("27: seed(" + v + ")", was, x.seed(v));
            was = v;
            for (int m : new int[] {1, 2, 29, 30}) {
                x.seed(v);
                x.days(m);
                due.is("28: THE SEED behind days(" + m + ") by " + v, drawnBehind(v, m), x.seed(v));
            }
            x.days(0);
            x.days(31);
            due.is("28: THE SEED behind days that are refused", v, x.seed(v));
        }
        x.seed(5);
        for (int i = 0; i < 30; i++) {
            x.days(1);
        }
        due.is("28: THE SEED goes on", drawnBehind(5, 30), x.seed(0));
    }

    /** Of so many equal people who feed nobody, by a count of its own. */
    private static int takenOfEqual(int people, long seed, int m) {
        boolean[] atLarge = new boolean[12];
        java.util.Arrays.fill(atLarge, 0, people, true);
        int taken = 0;
        for (int i = 1; i <= m; i++) {
            BigInteger x = new BigInteger(Long.toUnsignedString(drawnBehind(seed, i)));
            int drawn = x.shiftRight(33).mod(BigInteger.valueOf(12)).intValue();
            int who = drawn;
            if (drawn > 6) {
                who = 0;
                while (who < people && !atLarge[who]) {
                    who++;
                }
                taken += who < people ? 1 : 0;
            }
            atLarge[who] = false;
        }
        return taken;
    }

    private static void daysByTheSeed() {
        for (int people = 0; people <= 7; people++) {
            ArrestOrder x = Scenes.of(Scenes.alike("P50", people));
            for (long seed = -8; seed < 8; seed++) {
                for (int m = 1; m <= 30; m += seed % 2 == 0 ? 29 : 4) {
                    x.seed(seed << 59 ^ seed);
                    int want = takenOfEqual(people, seed << 59 ^ seed, m);
                    due.is("28: days(" + m + ") of " + people + " by " + seed, want, x.days(m));
                }
            }
        }
        ArrestOrder x = Scenes.of(SEVEN);
        due.is("28: days(0)", BAD, x.days(0));
        due.is("28: days(31)", BAD, x.days(31));
        due.is("28: no day has passed", 0, x.about(5));
        due.is("28: no act", 0, x.about(6));
        for (int person = 0; person < 7; person++) {
            x.die(person);
        }
        due.is("28: all are dead", 0, x.days(30));
    }

    // ---- 29, 30: slots

    private static void slots() {
        ArrestOrder x = Scenes.of("AP50P70P30F02");
        due.is("29: keep(0)", 0, x.keep(0));
        due.is("30: again(1), only 0 was kept", LATE, x.again(1));
        String atFirst = Scenes.acted(x);
        x.grade(0, 9);
        x.feed(0, 2);
        x.die(2);
        x.day();
        due.is("29: keep(1)", 1, x.keep(1));
        due.is("29: no act", 4, x.about(6));
        due.is("30: again(0)", 0, x.again(0));
        due.holds("30: as at first", atFirst.equals(Scenes.acted(x)));
        due.is("30: again(1)", 1, x.again(1));
        int[] want = {3, 2, 2, 0, 4, 1, 0};
        for (int what = 0; what < want.length; what++) {
            due.is("30: about(" + what + ")", want[what], x.about(what));
        }
        due.is("30: DEED", 9, x.person(0, 0));
        due.is("30: undo()", LATE, x.undo());
        x.free(0);
        x.day();
        due.is("30: what came behind did not change the slot", 1, x.again(1));
        due.is("30: LARGE", 2, x.about(1));
        for (int i = 0; i < 20; i++) {
            x.day();
        }
        due.is("29: the slot is kept anew", 21, x.keep(0));
        due.is("30: again(1)", 1, x.again(1));
        due.is("30: again(0)", 21, x.again(0));
        due.is("30: a full row of acts is gone", 0, x.about(6));
        ArrestOrder other = Scenes.of("AP50P70P30F02");
        other.keep(1);
        due.is("30: again(0), only 1 was kept", LATE, other.again(0));
        due.is("30: again(1)", 0, other.again(1));
    }
}
