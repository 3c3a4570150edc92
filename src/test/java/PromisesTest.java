/** The promises one by one: ordinary inputs, the edges that the document names, wrong inputs. */
public final class PromisesTest {
    private static final int UNKNOWN = Scenes.UNKNOWN, BAD = Scenes.BAD, LATE = Scenes.LATE, FULL = Scenes.FULL,
        NONE = Scenes.NONE;
    private static final int[] NO_PERSON = {-1, 7, 8, 32, 64, Integer.MIN_VALUE, Integer.MAX_VALUE};
    private static final int ALL_DEEDS = 1023;

    private static final Due due = new Due();

    public static void main(String[] args) {
        newObject();
        write();
        wipe();
        fault();
        county();
        about();
        person();
        take();
        free();
        die();
        feed();
        grade();
        day();
        undo();
        fall();
        place();
        last();
        toFeed();
        giveUp();
        claim();
        share();
        see();
        unsee();
        did();
        rests();
        toss();
        seed();
        days();
        keep();
        again();
        due.end();
    }

    private static void tell(ArrestOrder x, String text) {
        Scenes.tell(x, text);
    }

    private static ArrestOrder of(String text) {
        return Scenes.of(text);
    }

    private static String state(ArrestOrder x) {
        return Scenes.state(x);
    }

    private static void newObject() {
        ArrestOrder x = new ArrestOrder();
        for (int what = 0; what <= 8; what++) {
            due.is("1: about(" + what + ") of a new object", 0, x.about(what));
        }
        due.is("1: person(0, 0)", UNKNOWN, x.person(0, 0));
        due.is("1: seed(3)", 0, x.seed(3));
        due.is("1: unsee()", 0, x.unsee());
        due.is("1: again(0)", LATE, x.again(0));
        due.is("1: again(1)", LATE, x.again(1));
        due.is("1: undo()", LATE, x.undo());
        due.is("1: fall()", 0, x.fall());
        due.is("1: last()", 0, x.last());
    }

    private static void write() {
        ArrestOrder x = new ArrestOrder();
        due.is("2: write(-1)", BAD, x.write(-1));
        due.is("2: write(256)", BAD, x.write(256));
        due.is("2: write(least)", BAD, x.write(Integer.MIN_VALUE));
        due.is("2: write(0)", 1, x.write(0));
        due.is("2: write(255)", 2, x.write(255));
        for (int i = 3; i <= 48; i++) {
            due.is("2: write(65)", i, x.write(65));
        }
        due.is("2: write(65), full", FULL, x.write(65));
        due.is("2: write(256), full", BAD, x.write(256));
        due.is("2: about(8)", 48, x.about(8));
    }

    private static void wipe() {
        ArrestOrder x = of("AP10");
        due.is("3: wipe()", 4, x.wipe());
        due.is("3: wipe() again", 0, x.wipe());
        due.is("3: fault()", 0, x.fault());
        due.is("3: the county stays", 1, x.about(0));
        due.is("3: write(65)", 1, x.write(65));
        due.is("3: fault()", NONE, x.fault());
    }

    private static void faultIs(String text, int want) {
        ArrestOrder x = new ArrestOrder();
        tell(x, text);
        due.is("4: fault() of " + text, want, x.fault());
        int people = x.county();
        due.holds("4: county() of " + text, want == NONE ? people >= 0 : people == LATE);
    }

    private static void fault() {
        faultIs("", 0);
        faultIs("a", 0);
        faultIs("P", 0);
        faultIs("A", NONE);
        faultIs("AA", 1);
        faultIs("AP", 2);
        faultIs("APx", 2);
        faultIs("AP/0", 2);
        faultIs("AP:0", 2);
        faultIs("AP9", 3);
        faultIs("AP94", 3);
        faultIs("AP9/", 3);
        faultIs("AP93", NONE);
        faultIs("AP93x", 4);
        faultIs("AP93" + (char) 0, 4);
        faultIs("AP93" + (char) 255, 4);
        faultIs("AF", 1);
        faultIs("AP00F", 4);
        faultIs("AP00P00F", 8);
        faultIs("AP00P00F2", 8);
        faultIs("AP00P00F1", 9);
        faultIs("AP00P00F11", 9);
        faultIs("AP00P00F12", 9);
        faultIs("AP00P00F10", NONE);
        faultIs("AP00P00F10F1", 11);
        faultIs("AP00P00F10F0", 12);
        faultIs("AP00P00F10F01", NONE);
        faultIs("AP00P00F10F01F", 13);
        faultIs("AP00P00F10F01P00F", 17);
        faultIs("AP00P00F10F01P00F1", 18);
        faultIs("AP00P00F10F01P00F10", 18);
        faultIs("AP00P00P00F01F01", 15);
        faultIs("AP00P00P00F01F02F0", 17);
        faultIs("AP00P01P02P03P10P11P12", NONE);
        faultIs("AP00P01P02P03P10P11P12P", 22);
        faultIs("AP00P01P02P03P10P11P12F06", NONE);
        faultIs("AP00P01P02P03P10P11P12F07", 24);
        String eleven = "AP00P00P00P00F01F02F03F10F12F13F20F21F23F30F31";
        faultIs(eleven, NONE);
        faultIs(eleven + "F", 47);
        faultIs(eleven + "F3", 48);
        faultIs(eleven + "F0", 47);
        faultIs(eleven + "P0", 48);
    }

    private static void county() {
        ArrestOrder x = of("AP50P41F10");
        x.die(0);
        x.day();
        x.keep(0);
        x.see(0, 1);
        x.seed(77);
        tell(x, "AP30P3");
        String before = state(x);
        due.is("5: county(), a fault", LATE, x.county());
        due.holds("5: refused, all as it was", before.equals(state(x)));
        due.is("5: refused, what was kept is there", 1, x.again(0));
        x.day();
        x.die(1);
        tell(x, "AP30P30P12");
        due.is("5: county()", 3, x.county());
        due.is("5: DEED", 3, x.person(0, 0));
        due.is("5: KIND", 0, x.person(1, 1));
        due.is("5: THE TEXT stays", 10, x.about(8));
        due.is("5: all are at large", 7, x.about(1));
        due.is("5: nobody is dead", 0, x.about(4));
        due.is("5: THE DAY", 0, x.about(5));
        due.is("5: ACTS", 0, x.about(6));
        due.is("5: undo()", LATE, x.undo());
        due.is("5: SEEN stays", 1, x.about(7));
        due.is("5: THE SEED stays", 77, x.seed(0));
        due.is("5: what was kept is gone", LATE, x.again(0));
        due.is("5: nobody feeds", 0, x.person(1, 3));
        tell(x, "A");
        due.is("5: county() of nobody", 0, x.county());
        due.is("5: nobody is at large", 0, x.about(1));
    }

    private static void about() {
        ArrestOrder x = of("AP50P71P72P73P90F01F12F23F41F40");
        due.is("6: PEOPLE", 5, x.about(0));
        due.is("6: LARGE", 31, x.about(1));
        due.is("6: MAY", 16, x.about(2));
        due.is("6: HIDDEN", 1 + 4 + 8, x.about(3));
        x.die(4);
        x.take(2);
        due.is("6: MAY, the worst one is hidden", 0, x.about(2));
        x.feed(1, 2);
        due.is("6: MAY", 4, x.about(2));
        x.take(2);
        due.is("6: LARGE", 11, x.about(1));
        due.is("6: HIDDEN", 0, x.about(3));
        x.feed(0, 2);
        due.is("6: HIDDEN, not at large", 4, x.about(3));
        due.is("6: dead", 16, x.about(4));
        due.is("6: ACTS", 4, x.about(6));
        x.day();
        due.is("6: THE DAY", 1, x.about(5));
        x.see(0, 1);
        due.is("6: SEEN", 1, x.about(7));
        due.is("6: bytes", 31, x.about(8));
        for (int what : new int[] {-1, 9, Integer.MIN_VALUE, Integer.MAX_VALUE}) {
            due.is("6: about(" + what + ")", BAD, x.about(what));
        }
        ArrestOrder y = of("AP50P30P50P52P01P32");
        due.is("6: MAY, a sham is held for worse", 8, y.about(2));
        y.take(3);
        due.is("6: MAY, equal ones", 1 + 4 + 32, y.about(2));
    }

    private static void person() {
        ArrestOrder x = of("AP90P91P92P93F02F03F30");
        int[][] want = {{9, 0, 9, 12}, {9, 1, 9, 0}, {9, 2, 11, 0}, {9, 3, 0, 1}};
        for (int person = 0; person < 4; person++) {
            for (int what = 0; what < 4; what++) {
                due.is("7: person(" + person + ", " + what + ")", want[person][what], x.person(person, what));
            }
        }
        due.is("7: person(4, 0)", UNKNOWN, x.person(4, 0));
        due.is("7: person(-1, 9)", UNKNOWN, x.person(-1, 9));
        due.is("7: person(3, -1)", BAD, x.person(3, -1));
        due.is("7: person(3, 4)", BAD, x.person(3, 4));
        for (int no : NO_PERSON) {
            due.is("7: person(" + no + ", 0)", UNKNOWN, x.person(no, 0));
        }
    }

    private static void take() {
        ArrestOrder x = of("AP50P70P60F02");
        for (int no : NO_PERSON) {
            due.is("8: take(" + no + ")", UNKNOWN, x.take(no));
        }
        due.is("8: take(0), there is a worse one", LATE, x.take(0));
        due.is("8: refused, no act", 0, x.about(6));
        due.is("8: take(1)", 2, x.take(1));
        due.is("8: take(1), taken", LATE, x.take(1));
        due.is("8: take(2), hidden", LATE, x.take(2));
        x.feed(0, 2);
        due.is("8: take(2)", 1, x.take(2));
        due.is("8: take(0)", 0, x.take(0));
        due.is("8: THE DAY stays", 0, x.about(5));
        ArrestOrder loud = of("AP51P50F10");
        due.is("8: take of a loud one that is fed", 1, loud.take(0));
        ArrestOrder dead = of("AP50P60");
        dead.die(1);
        due.is("8: take of a dead one", LATE, dead.take(1));
        due.is("8: take of an equal one with a greater number", 1, of("AP50P50").take(1));
    }

    private static void free() {
        ArrestOrder x = of("AP50P70");
        due.is("9: free(2)", UNKNOWN, x.free(2));
        due.is("9: free(-1)", UNKNOWN, x.free(-1));
        due.is("9: free(1), at large", LATE, x.free(1));
        x.take(1);
        due.is("9: free(1)", 2, x.free(1));
        due.is("9: LARGE", 3, x.about(1));
        x.die(1);
        due.is("9: free(1), dead", LATE, x.free(1));
        due.is("9: ACTS", 3, x.about(6));
    }

    private static void die() {
        ArrestOrder x = of("AP50P70P30");
        due.is("10: die(3)", UNKNOWN, x.die(3));
        due.is("10: die(-1)", UNKNOWN, x.die(-1));
        due.is("10: die(0)", 2, x.die(0));
        due.is("10: die(0), dead", LATE, x.die(0));
        x.take(1);
        due.is("10: die(1), taken", 1, x.die(1));
        due.is("10: dead", 3, x.about(4));
        due.is("10: LARGE", 4, x.about(1));
        due.is("10: ACTS", 3, x.about(6));
        ArrestOrder fed = of("AP50P70F01");
        fed.die(0);
        due.is("10: the dead hide nobody", 2, fed.about(2));
    }

    private static void feed() {
        ArrestOrder x = of("AP50P70P30F01");
        due.is("11: feed(3, 0)", UNKNOWN, x.feed(3, 0));
        due.is("11: feed(0, 3)", UNKNOWN, x.feed(0, 3));
        due.is("11: feed(5, 5)", UNKNOWN, x.feed(5, 5));
        due.is("11: feed(-1, -1)", UNKNOWN, x.feed(-1, -1));
        due.is("11: feed(2, 2)", BAD, x.feed(2, 2));
        due.is("11: refused, no act", 0, x.about(6));
        due.is("11: feed(0, 1)", 0, x.feed(0, 1));
        due.is("11: feed(0, 2)", 1, x.feed(0, 2));
        due.is("11: feed(0, 1)", 1, x.feed(0, 1));
        due.is("11: whom 0 feeds", 6, x.person(0, 3));
        due.is("11: whom 1 feeds", 0, x.person(1, 3));
        x.die(0);
        due.is("11: a dead one", 1, x.feed(2, 0));
    }

    private static void grade() {
        ArrestOrder x = of("AP50P72");
        due.is("12: grade(2, 10)", UNKNOWN, x.grade(2, 10));
        due.is("12: grade(0, 10)", BAD, x.grade(0, 10));
        due.is("12: grade(0, -1)", BAD, x.grade(0, -1));
        due.is("12: grade(0, 5)", LATE, x.grade(0, 5));
        due.is("12: refused, no act", 0, x.about(6));
        due.is("12: grade(0, 9)", 5, x.grade(0, 9));
        due.is("12: grade(1, 0)", 7, x.grade(1, 0));
        due.is("12: GRADE", 2, x.person(1, 2));
        due.is("12: DEED", 9, x.person(0, 0));
        due.is("12: KIND", 2, x.person(1, 1));
        due.is("12: ACTS", 2, x.about(6));
    }

    private static void day() {
        ArrestOrder x = of("AP50P70P70");
        due.is("13: day()", 1, x.day());
        due.is("13: day()", 2, x.day());
        due.is("13: THE DAY", 2, x.about(5));
        due.is("13: LARGE", 1, x.about(1));
        due.is("13: day()", 0, x.day());
        due.is("13: day(), nobody", NONE, x.day());
        due.is("13: THE DAY", 4, x.about(5));
        due.is("13: ACTS", 4, x.about(6));
        due.is("13: day(), the worst one is hidden", NONE, of("AP50P70F01").day());
    }

    private static void undo() {
        ArrestOrder x = of("AP50P70P30F02");
        String[] states = new String[8];
        states[0] = state(x);
        x.take(1);
        states[1] = state(x);
        x.free(1);
        states[2] = state(x);
        x.feed(0, 2);
        states[3] = state(x);
        x.grade(2, 8);
        states[4] = state(x);
        x.day();
        states[5] = state(x);
        x.die(0);
        states[6] = state(x);
        x.die(2);
        for (int left = 6; left >= 0; left--) {
            due.is("14: undo()", left, x.undo());
            due.holds("14: as it was behind " + left + " acts", states[left].equals(state(x)));
        }
        due.is("14: undo(), none left", LATE, x.undo());
        ringOfActs();
    }

    private static void ringOfActs() {
        ArrestOrder x = of("AP00P00");
        for (int deed = 1; deed <= 20; deed++) {
            x.grade(0, deed % 10);
            due.is("14: ACTS", Math.min(deed, 14), x.about(6));
        }
        for (int left = 13; left >= 0; left--) {
            due.is("14: undo()", left, x.undo());
            due.is("14: DEED", (6 + left) % 10, x.person(0, 0));
        }
        due.is("14: undo(), forgotten", LATE, x.undo());
        x.grade(0, 1);
        due.is("14: undo()", 0, x.undo());
        due.is("14: DEED", 6, x.person(0, 0));
    }

    private static void fall() {
        due.is("15: fall()", 213, of("AP50P70P30").fall());
        due.is("15: equal ones by number", 1234567, of("AP00P00P00P00P00P00P00").fall());
        due.is("15: nobody", 0, of("A").fall());
        due.is("15: a hidden one stops it", 0, of("AP50P70F01").fall());
        due.is("15: equal ones go ahead of who they hide", 21, of("AP50P50F10").fall());
        due.is("15: a child is last", 21, of("AP93P10").fall());
        due.is("15: a child is of GRADE 0 as others are", 12, of("AP93P00").fall());
        ArrestOrder stopped = of("AP90P50P60F12");
        due.is("15: as far as it goes", 1, stopped.fall());
        due.is("15: nothing is changed", 7, stopped.about(1));
        ArrestOrder some = of("AP90P50P60");
        some.die(0);
        due.is("15: without the dead", 32, some.fall());
    }

    private static void place() {
        ArrestOrder x = of("AP50P90P30P60F23");
        due.is("16: place(1)", 0, x.place(1));
        due.is("16: place(3), hidden", NONE, x.place(3));
        due.is("16: place(0), less", NONE, x.place(0));
        x.feed(2, 3);
        due.is("16: place(3)", 1, x.place(3));
        due.is("16: place(2)", 3, x.place(2));
        x.take(1);
        due.is("16: place(1), taken", NONE, x.place(1));
        due.is("16: place(3)", 0, x.place(3));
        for (int no : NO_PERSON) {
            due.is("16: place(" + no + ")", UNKNOWN, x.place(no));
        }
    }

    private static void last() {
        ArrestOrder x = of("AP50P90P30P60F23");
        due.is("17: last()", 13, x.last());
        x.die(0);
        due.is("17: last()", 12, x.last());
        x.feed(2, 3);
        due.is("17: last()", 0, x.last());
        due.is("17: nothing is changed", 14, x.about(1));
    }

    private static void toFeedIs(String text, int person, int count, int row) {
        ArrestOrder x = of(text);
        due.is("18: toFeed(" + person + ", 0) of " + text, count, x.toFeed(person, 0));
        due.is("18: toFeed(" + person + ", 1) of " + text, row, x.toFeed(person, 1));
    }

    private static void toFeed() {
        toFeedIs("AP50P70F01", 1, 0, 0);
        toFeedIs("AP50P70", 1, 1, 1);
        toFeedIs("AP50P70", 0, 1, 1);
        toFeedIs("AP50P70P90", 2, 1, 2);
        toFeedIs("AP90P70P50", 0, 1, 10);
        toFeedIs("AP50P50", 0, 2, 110);
        toFeedIs("AP50P50P50", 2, 2, 220);
        toFeedIs("AP50P50P50F02", 2, 1, 20);
        toFeedIs("AP50P50F01", 1, 1, 10);
        toFeedIs("AP50P50P50F10", 2, 2, 102);
        toFeedIs("AP51P50P50", 0, NONE, NONE);
        toFeedIs("AP50", 0, NONE, NONE);
        ArrestOrder x = of("AP50P70");
        due.is("18: toFeed(2, 5)", UNKNOWN, x.toFeed(2, 5));
        due.is("18: toFeed(0, 2)", BAD, x.toFeed(0, 2));
        due.is("18: toFeed(0, -1)", BAD, x.toFeed(0, -1));
        due.is("18: nobody is fed", 0, x.about(3));
        x.die(1);
        due.is("18: of a dead one", 0, x.toFeed(1, 0));
        due.is("18: the dead hide nobody", NONE, x.toFeed(0, 0));
    }

    private static void giveUp() {
        ArrestOrder x = of("AP50P70P90F01F02");
        due.is("19: giveUp(2)", 1, x.giveUp(2));
        due.is("19: giveUp(1)", 1, x.giveUp(1));
        due.is("19: giveUp(0)", 6, x.giveUp(0));
        due.is("19: taken as it is", 0, of("AP50P70").giveUp(0));
        due.is("19: fewest ahead of least", 4, of("AP50P50P50P50F23F02F12F30F31").giveUp(3));
        due.is("19: of like ones the least", 2, of("AP00P50P50P50F12F23F31").giveUp(0));
        due.is("19: giveUp(3)", UNKNOWN, x.giveUp(3));
        due.is("19: giveUp(-1)", UNKNOWN, x.giveUp(-1));
        x.die(1);
        due.is("19: giveUp(1), dead", LATE, x.giveUp(1));
        due.is("19: giveUp(0)", 4, x.giveUp(0));
        due.is("19: nothing is changed", 5, x.about(1));
    }

    private static void claim() {
        due.is("20: behind the equal one", 0, of("AP50P70").claim(1));
        due.is("20: the least number goes first", 0, of("AP03P70P01").claim(1));
        due.is("20: not to be taken is best", 6, of("AP50P70F01").claim(1));
        due.is("20: a sham needs two less", 4, of("AP50P72F01").claim(1));
        due.is("20: equal at 5 and hidden is not enough", 0, of("AP50P71F01").claim(1));
        due.is("20: a child is always 0", 0, of("AP50P93").claim(1));
        due.is("20: alone", 0, of("AP90").claim(0));
        due.is("20: nobody can hide it at any deed", 0, of("AP90P91F01").claim(1));
        due.is("20: hidden at 9 alone", 9, of("AP80P70F01").claim(1));
        ArrestOrder x = of("AP50P70");
        due.is("20: claim(2)", UNKNOWN, x.claim(2));
        due.is("20: nothing is changed", 7, x.person(1, 0));
        x.take(1);
        due.is("20: claim(1), taken", LATE, x.claim(1));
        due.is("20: claim(-1)", UNKNOWN, x.claim(-1));
    }

    private static void shareIs(ArrestOrder x, int person, int above, int below) {
        due.is("21: share(" + person + ", true)", above, x.share(person, true));
        due.is("21: share(" + person + ", false)", below, x.share(person, false));
    }

    private static void share() {
        shareIs(of("AP50"), 0, 1, 1);
        shareIs(of("AP50P70"), 0, 1, 1);
        ArrestOrder fed = of("AP50P70F01");
        shareIs(fed, 0, 0, 1);
        shareIs(fed, 1, 0, 1);
        ArrestOrder three = of("AP90P50P50F10");
        shareIs(three, 0, -1, 3);
        shareIs(three, 1, -1, 3);
        shareIs(three, 2, 2, 3);
        three.take(1);
        three.die(1);
        shareIs(three, 1, 0, 1);
        shareIs(three, 0, 1, 1);
        due.is("21: share(3, true)", UNKNOWN, three.share(3, true));
        due.is("21: share(-1, false)", UNKNOWN, three.share(-1, false));
    }

    private static void see() {
        ArrestOrder x = of("AP50P70P30");
        due.is("22: see(3, 3)", UNKNOWN, x.see(3, 3));
        due.is("22: see(0, 3)", UNKNOWN, x.see(0, 3));
        due.is("22: see(-1, 0)", UNKNOWN, x.see(-1, 0));
        due.is("22: see(1, 1)", BAD, x.see(1, 1));
        for (int count = 1; count <= 6; count++) {
            due.is("22: see(1, 0)", count, x.see(1, 0));
        }
        due.is("22: see(1, 0), full", FULL, x.see(1, 0));
        due.is("22: see(1, 1), full", BAD, x.see(1, 1));
        due.is("22: see(1, 3), full", UNKNOWN, x.see(1, 3));
        due.is("22: SEEN", 6, x.about(7));
        due.is("22: no act", 0, x.about(6));
    }

    private static void unsee() {
        ArrestOrder x = of("AP50P70P30");
        x.see(0, 1);
        x.see(0, 2);
        due.is("23: did(2)", 0, x.did(2));
        due.is("23: unsee()", 2, x.unsee());
        due.is("23: SEEN", 0, x.about(7));
        due.is("23: did(2)", ALL_DEEDS, x.did(2));
        due.is("23: unsee()", 0, x.unsee());
        due.is("23: see(1, 0)", 1, x.see(1, 0));
    }

    private static void did() {
        ArrestOrder x = of("AP50P70P30");
        due.is("24: nothing is seen", ALL_DEEDS, x.did(0));
        x.see(0, 1);
        due.is("24: did(0), equal ones by number", 0x380, x.did(0));
        due.is("24: did(1)", 0x03f, x.did(1));
        due.is("24: did(2)", 0, x.did(2));
        x.see(1, 2);
        due.is("24: did(0)", 0x380, x.did(0));
        x.see(2, 1);
        due.is("24: against one another", 0, x.did(0));
        due.is("24: did(3)", UNKNOWN, x.did(3));
        due.is("24: did(-1)", UNKNOWN, x.did(-1));
        due.is("24: nothing is changed", 5, x.person(0, 0));
        didOfSomeNotTaken();
        didOfGoneOnes();
    }

    private static void didOfSomeNotTaken() {
        ArrestOrder x = of("AP50P70P30F21");
        x.see(0, 1);
        due.is("24: the other one is not taken", 0x380, x.did(0));
        x.unsee();
        x.see(1, 0);
        due.is("24: the one is not taken", 0, x.did(0));
        ArrestOrder sham = of("AP50P72");
        sham.see(0, 1);
        due.is("24: a sham", 0x00f, sham.did(1));
    }

    private static void didOfGoneOnes() {
        ArrestOrder x = of("AP50P70P30");
        x.see(0, 2);
        x.see(2, 1);
        tell(x, "AP50P70");
        x.county();
        due.is("24: gone ones are not looked at", ALL_DEEDS, x.did(0));
        due.is("24: SEEN stays", 2, x.about(7));
        tell(x, "AP50P70P90");
        x.county();
        due.is("24: they are looked at again", 0x200, x.did(0));
        due.is("24: they are looked at again", 0, x.did(2));
    }

    private static void restsAre(ArrestOrder x, int person, int other, int count, int first) {
        String call = "25: rests(" + person + ", " + other + ", ";
        due.is(call + "0)", count, x.rests(person, other, 0));
        due.is(call + "1)", first, x.rests(person, other, 1));
    }

    private static void rests() {
        restsAre(of("AP50P50"), 0, 1, 2, 0);
        restsAre(of("AP50P70"), 0, 1, 1, 20);
        restsAre(of("AP50P70"), 1, 0, 1, 2);
        restsAre(of("AP50P70F01"), 0, 1, 1, 0);
        restsAre(of("AP91P70P50"), 0, 1, 1, 0);
        ArrestOrder x = of("AP50P70P30");
        due.is("25: rests(3, 3, 9)", UNKNOWN, x.rests(3, 3, 9));
        due.is("25: rests(0, -1, 0)", UNKNOWN, x.rests(0, -1, 0));
        due.is("25: rests(0, 0, 0)", BAD, x.rests(0, 0, 0));
        due.is("25: rests(0, 1, 2)", BAD, x.rests(0, 1, 2));
        due.is("25: rests(0, 1, -1)", BAD, x.rests(0, 1, -1));
        x.die(1);
        due.is("25: rests(0, 1, 2), dead", BAD, x.rests(0, 1, 2));
        due.is("25: rests(0, 1, 0), dead", LATE, x.rests(0, 1, 0));
        due.is("25: rests(1, 0, 0), dead", LATE, x.rests(1, 0, 0));
        due.is("25: nobody feeds", 0, x.about(3));
    }

    private static void toss() {
        ArrestOrder x = of("AP50P50P30P90F20");
        due.is("26: toss(3, true)", 1, x.toss(3, true));
        due.is("26: toss(3, false)", 1, x.toss(3, false));
        due.is("26: toss(0, true)", 0, x.toss(0, true));
        due.is("26: toss(0, false)", 1, x.toss(0, false));
        due.is("26: toss(1, true)", 1, x.toss(1, true));
        due.is("26: toss(2, true)", 0, x.toss(2, true));
        x.take(3);
        due.is("26: toss(3, true), taken", 0, x.toss(3, true));
        due.is("26: toss(4, true)", UNKNOWN, x.toss(4, true));
        due.is("26: toss(-1, false)", UNKNOWN, x.toss(-1, false));
    }

    private static void seed() {
        ArrestOrder x = new ArrestOrder();
        due.is("27: seed(least)", 0, x.seed(Long.MIN_VALUE));
        due.is("27: seed(-1)", Long.MIN_VALUE, x.seed(-1));
        due.is("27: seed(1)", -1, x.seed(1));
        due.is("27: days(1)", 0, x.days(1));
        due.is("27: THE SEED", 6364136223846793005L + 1442695040888963407L, x.seed(0));
    }

    private static void days() {
        ArrestOrder x = of("AP50P50P50P50P50P50P50");
        for (int m : new int[] {0, 31, -1, Integer.MIN_VALUE, Integer.MAX_VALUE}) {
            due.is("28: days(" + m + ")", BAD, x.days(m));
        }
        due.is("28: refused, THE SEED stays", 0, x.seed(0));
        String before = state(x);
        int[] drawn = new int[12];
        for (long seed = 0; seed < 300; seed++) {
            x = of("AP50P50P50P50P50P50P50");
            x.seed(seed);
            int first = (int) ((seed * 6364136223846793005L + 1442695040888963407L) >>> 33) % 12;
            drawn[first]++;
            due.is("28: days(1) by " + seed, first < 7 ? 0 : 1, x.days(1));
            due.holds("28: nothing changes but THE SEED", before.equals(state(x)));
        }
        for (int rest = 0; rest < 12; rest++) {
            due.holds("28: " + rest + " was drawn", drawn[rest] > 0);
        }
        ArrestOrder few = of("AP50P50P50P50P50P50P50");
        due.is("28: all are taken or dead in the end", NONE, fallOfDays(few));
    }

    /** NONE, if thirty times more and more are taken, up to a number that then stays. */
    private static int fallOfDays(ArrestOrder x) {
        int before = 0;
        for (int m = 1; m <= 30; m++) {
            x.seed(12);
            int taken = x.days(m);
            if (taken < before || taken > before + 1 || taken > 7) {
                return m;
            }
            before = taken;
        }
        return before > 0 ? NONE : 0;
    }

    private static void keep() {
        ArrestOrder x = of("AP50P70P30");
        due.is("29: keep(-1)", UNKNOWN, x.keep(-1));
        due.is("29: keep(2)", UNKNOWN, x.keep(2));
        due.is("29: keep(0)", 0, x.keep(0));
        x.day();
        due.is("29: keep(1)", 1, x.keep(1));
        due.is("29: no act", 1, x.about(6));
        x.day();
        due.is("29: keep(0) anew", 2, x.keep(0));
        due.is("29: again(1)", 1, x.again(1));
        due.is("29: again(0)", 2, x.again(0));
        due.is("29: of nobody", 0, new ArrestOrder().keep(1));
    }

    private static void again() {
        ArrestOrder x = of("AP50P70P30F02");
        due.is("30: again(-1)", UNKNOWN, x.again(-1));
        due.is("30: again(2)", UNKNOWN, x.again(2));
        due.is("30: again(0), none", LATE, x.again(0));
        x.day();
        x.die(2);
        x.see(0, 1);
        x.keep(0);
        due.is("30: again(1), none", LATE, x.again(1));
        due.is("30: refused, ACTS stay", 2, x.about(6));
        x.undo();
        x.undo();
        String atFirst = state(x);
        x.grade(0, 9);
        x.feed(1, 0);
        x.feed(0, 2);
        x.day();
        x.day();
        x.see(0, 2);
        x.seed(5);
        due.is("30: again(0)", 1, x.again(0));
        due.is("30: LARGE", 1, x.about(1));
        due.is("30: dead", 4, x.about(4));
        due.is("30: THE DAY", 1, x.about(5));
        due.is("30: ACTS", 0, x.about(6));
        due.is("30: undo()", LATE, x.undo());
        due.is("30: DEED", 5, x.person(0, 0));
        due.is("30: whom 0 feeds", 4, x.person(0, 3));
        due.is("30: whom 1 feeds", 0, x.person(1, 3));
        due.is("30: SEEN stays", 2, x.about(7));
        due.is("30: THE SEED stays", 5, x.seed(0));
        x.grade(0, 1);
        due.is("30: again(0), a second time", 1, x.again(0));
        due.is("30: DEED", 5, x.person(0, 0));
        due.holds("30: it is not as at first", !atFirst.equals(state(x)));
    }
}
