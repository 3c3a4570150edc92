import java.util.EnumMap;
import java.util.Map;
import java.util.TreeSet;
import java.util.function.ToLongFunction;

/**
 * Each refusal of each promise, in counties from nobody to a full one: what is answered, that of
 * several refusals the one that is told first is, and that what is refused changes nothing.
 */
public final class RefusalsTest {
    private static final int UNKNOWN = Scenes.UNKNOWN, BAD = Scenes.BAD, LATE = Scenes.LATE, FULL = Scenes.FULL;
    private static final int LEAST = Integer.MIN_VALUE, MOST = Integer.MAX_VALUE;

    private static final Due due = new Due();

    private final Scenes.Scene scene;
    private final Map<Scenes.Probe, String> before = new EnumMap<>(Scenes.Probe.class);

    private RefusalsTest(Scenes.Scene scene) {
        this.scene = scene;
        for (Scenes.Probe probe : Scenes.Probe.values()) {
            before.put(probe, probe.of(scene.make()));
        }
    }

    public static void main(String[] args) {
        for (Scenes.Scene scene : Scenes.all()) {
            RefusalsTest test = new RefusalsTest(scene);
            test.standsAsTold();
            test.unknownPeople();
            test.unknownInPairs();
            test.badNumbers();
            test.badPairs();
            test.lateActs();
            test.lateQuestions();
            test.textAndSeen();
            test.slots();
            test.questions();
        }
        due.end();
    }

    private void refused(String call, int want, ToLongFunction<ArrestOrder> made) {
        due.is(scene.name + ": " + call, want, made.applyAsLong(scene.make()));
        unchanged(call, made);
    }

    private void unchanged(String call, ToLongFunction<ArrestOrder> made) {
        for (Scenes.Probe probe : Scenes.Probe.values()) {
            ArrestOrder x = scene.make();
            made.applyAsLong(x);
            due.holds(scene.name + ": " + call + " changes nothing, by " + probe,
                before.get(probe).equals(probe.of(x)));
        }
    }

    /** If a scene were not what it is told to be, its refusals would say little. */
    private void standsAsTold() {
        int[] told = {scene.people, scene.large, scene.may, -1, scene.dead, -1, scene.acts, scene.seen, scene.bytes};
        for (int what = 0; what < told.length; what++) {
            if (told[what] >= 0) {
                due.is(scene.name + ": about(" + what + ")", told[what], scene.make().about(what));
            }
        }
        for (int person = 0; person < scene.people; person++) {
            due.is(scene.name + ": DEED of " + person, scene.deeds[person], scene.make().person(person, 0));
        }
    }

    private TreeSet<Integer> noPeople() {
        TreeSet<Integer> no = new TreeSet<>();
        for (int number : new int[] {-1, 0, 6, 7, 8, 9, 31, 32, 33, 63, 64, -7, -32, -64, LEAST, MOST,
            scene.people, scene.people + 1}) {
            if (number < 0 || number >= scene.people) {
                no.add(number);
            }
        }
        return no;
    }

    private void unknownPeople() {
        for (int no : noPeople()) {
            refused("take(" + no + ")", UNKNOWN, x -> x.take(no));
            refused("free(" + no + ")", UNKNOWN, x -> x.free(no));
            refused("die(" + no + ")", UNKNOWN, x -> x.die(no));
            refused("place(" + no + ")", UNKNOWN, x -> x.place(no));
            refused("giveUp(" + no + ")", UNKNOWN, x -> x.giveUp(no));
            refused("claim(" + no + ")", UNKNOWN, x -> x.claim(no));
            refused("did(" + no + ")", UNKNOWN, x -> x.did(no));
            for (boolean upper : new boolean[] {true, false}) {
                refused("share(" + no + ", " + upper + ")", UNKNOWN, x -> x.share(no, upper));
                refused("toss(" + no + ", " + upper + ")", UNKNOWN, x -> x.toss(no, upper));
            }
            for (int second : new int[] {-1, 0, 1, 2, 3, 4, 9, 10}) {
                refused("person(" + no + ", " + second + ")", UNKNOWN, x -> x.person(no, second));
                refused("toFeed(" + no + ", " + second + ")", UNKNOWN, x -> x.toFeed(no, second));
                refused("grade(" + no + ", " + second + ")", UNKNOWN, x -> x.grade(no, second));
            }
        }
    }

    /** Ahead of BAD (both are one), FULL and LATE. */
    private void unknownInPairs() {
        for (int no : noPeople()) {
            for (int other : new int[] {no, 0, scene.people - 1, scene.people, -1, 1, 2}) {
                refused("feed(" + no + ", " + other + ")", UNKNOWN, x -> x.feed(no, other));
                refused("feed(" + other + ", " + no + ")", UNKNOWN, x -> x.feed(other, no));
                refused("see(" + no + ", " + other + ")", UNKNOWN, x -> x.see(no, other));
                refused("see(" + other + ", " + no + ")", UNKNOWN, x -> x.see(other, no));
                for (int what = -1; what <= 2; what++) {
                    int which = what;
                    refused("rests(" + no + ", " + other + ", " + what + ")", UNKNOWN, x -> x.rests(no, other, which));
                    refused("rests(" + other + ", " + no + ", " + what + ")", UNKNOWN, x -> x.rests(other, no, which));
                }
            }
        }
    }

    private void badNumbers() {
        for (int what : new int[] {-1, 9, 10, -9, LEAST, MOST}) {
            refused("about(" + what + ")", BAD, x -> x.about(what));
        }
        for (int m : new int[] {0, 31, -1, -30, 32, LEAST, MOST}) {
            refused("days(" + m + ")", BAD, x -> x.days(m));
        }
        for (int person = 0; person < scene.people; person++) {
            int who = person;
            for (int what : new int[] {-1, 4, 5, LEAST, MOST}) {
                refused("person(" + who + ", " + what + ")", BAD, x -> x.person(who, what));
            }
            for (int what : new int[] {-1, 2, 3, LEAST, MOST}) {
                refused("toFeed(" + who + ", " + what + ")", BAD, x -> x.toFeed(who, what));
            }
            for (int deed : new int[] {-1, 10, 11, 16, -6, LEAST, MOST}) {
                refused("grade(" + who + ", " + deed + ")", BAD, x -> x.grade(who, deed));
            }
        }
    }

    /** Both are one, or what: ahead of LATE and FULL, for those at large, taken and dead. */
    private void badPairs() {
        for (int person = 0; person < scene.people; person++) {
            int who = person;
            refused("feed(" + who + ", " + who + ")", BAD, x -> x.feed(who, who));
            refused("see(" + who + ", " + who + ")", BAD, x -> x.see(who, who));
            for (int what : new int[] {-1, 0, 1, 2, LEAST, MOST}) {
                refused("rests(" + who + ", " + who + ", " + what + ")", BAD, x -> x.rests(who, who, what));
            }
            for (int other = 0; other < scene.people; other++) {
                int whom = other;
                for (int what : new int[] {-1, 2, LEAST, MOST}) {
                    refused("rests(" + who + ", " + whom + ", " + what + ")", BAD, x -> x.rests(who, whom, what));
                }
            }
        }
    }

    private void lateActs() {
        if (scene.acts == 0) {
            refused("undo()", LATE, x -> x.undo());
        }
        for (int person = 0; person < scene.people; person++) {
            int who = person;
            if (!Scenes.isIn(scene.may, who)) {
                refused("take(" + who + ")", LATE, x -> x.take(who));
            }
            if (Scenes.isIn(scene.large | scene.dead, who)) {
                refused("free(" + who + ")", LATE, x -> x.free(who));
            }
            if (Scenes.isIn(scene.dead, who)) {
                refused("die(" + who + ")", LATE, x -> x.die(who));
            }
            refused("grade(" + who + ") as it is", LATE, x -> x.grade(who, scene.deeds[who]));
        }
    }

    private void lateQuestions() {
        for (int person = 0; person < scene.people; person++) {
            int who = person;
            boolean away = !Scenes.isIn(scene.large, who);
            if (away) {
                refused("giveUp(" + who + ")", LATE, x -> x.giveUp(who));
                refused("claim(" + who + ")", LATE, x -> x.claim(who));
            }
            for (int other = 0; other < scene.people; other++) {
                int whom = other;
                if (whom != who && (away || !Scenes.isIn(scene.large, whom))) {
                    refused("rests(" + who + ", " + whom + ", 0)", LATE, x -> x.rests(who, whom, 0));
                    refused("rests(" + who + ", " + whom + ", 1)", LATE, x -> x.rests(who, whom, 1));
                }
            }
        }
    }

    private void textAndSeen() {
        for (int letter : new int[] {-1, 256, 257, -256, 65 + 256, LEAST, MOST}) {
            refused("write(" + letter + ")", BAD, x -> x.write(letter));
        }
        if (scene.bytes == Scenes.MOST_BYTES) {
            for (int letter : new int[] {0, 'A', '1', 255}) {
                refused("write(" + letter + ")", FULL, x -> x.write(letter));
            }
        }
        if (!scene.isCounty) {
            refused("county()", LATE, x -> x.county());
        }
        if (scene.seen == Scenes.MOST_SEEN) {
            refused("see(0, 1)", FULL, x -> x.see(0, 1));
            refused("see(6, 5)", FULL, x -> x.see(6, 5));
        }
    }

    /** UNKNOWN ahead of LATE. */
    private void slots() {
        for (int no : new int[] {-1, 2, 3, 31, 32, 33, -32, LEAST, MOST}) {
            refused("keep(" + no + ")", UNKNOWN, x -> x.keep(no));
            refused("again(" + no + ")", UNKNOWN, x -> x.again(no));
        }
        for (int slot = 0; slot < 2; slot++) {
            int which = slot;
            if (!Scenes.isIn(scene.kept, slot)) {
                refused("again(" + slot + ")", LATE, x -> x.again(which));
            }
        }
    }

    /** Parts 2 and 3 of the document: what is asked changes nothing, DAYS nothing but THE SEED. */
    private void questions() {
        unchanged("fall()", x -> x.fall());
        unchanged("last()", x -> x.last());
        unchanged("fault()", x -> x.fault());
        for (int what = 0; what <= 8; what++) {
            int which = what;
            unchanged("about(" + what + ")", x -> x.about(which));
        }
        for (int m : new int[] {1, 2, 15, 29, 30}) {
            unchanged("days(" + m + ")", x -> daysAndTheSeedBack(x, m));
        }
        for (int person = 0; person < scene.people; person++) {
            questionsOf(person);
        }
    }

    private static long daysAndTheSeedBack(ArrestOrder x, int m) {
        long was = x.seed(0);
        x.seed(was);
        int taken = x.days(m);
        x.seed(was);
        return taken;
    }

    private void questionsOf(int who) {
        unchanged("place(" + who + ")", x -> x.place(who));
        unchanged("giveUp(" + who + ")", x -> x.giveUp(who));
        unchanged("claim(" + who + ")", x -> x.claim(who));
        unchanged("did(" + who + ")", x -> x.did(who));
        unchanged("share(" + who + ")", x -> x.share(who, true));
        unchanged("toss(" + who + ")", x -> x.toss(who, true));
        unchanged("toFeed(" + who + ", 0)", x -> x.toFeed(who, 0));
        unchanged("toFeed(" + who + ", 1)", x -> x.toFeed(who, 1));
        for (int what = 0; what <= 3; what++) {
            int which = what;
            unchanged("person(" + who + ", " + what + ")", x -> x.person(who, which));
        }
        for (int other = 0; other < scene.people; other++) {
            int whom = other;
            unchanged("rests(" + who + ", " + whom + ", 0)", x -> x.rests(who, whom, 0));
            unchanged("rests(" + who + ", " + whom + ", 1)", x -> x.rests(who, whom, 1));
        }
    }
}
