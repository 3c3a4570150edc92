import java.util.Random;

/** Random runs of calls, by fixed seeds, on the class and on the model: each answer is compared. */
public final class OracleTest {
    private static final int RUNS = 500;
    private static final int CALLS = 400;
    private static final int[] ODD = {-1, 7, 8, 9, 10, 31, 32, 33, 64, -9, 256,
        Integer.MIN_VALUE, Integer.MAX_VALUE};

    private static final Due due = new Due();

    private final Random random;
    private final int run;
    private final ArrestOrder x = new ArrestOrder();
    private final Model y = new Model();

    private OracleTest(int run) {
        this.run = run;
        random = new Random(run);
    }

    public static void main(String[] args) {
        for (int run = 0; run < RUNS && !due.anyWrong(); run++) {
            new OracleTest(run).go();
        }
        due.end();
    }

    private void go() {
        if (random.nextInt(4) > 0) {
            tellCounty();
        }
        // The texts' bytes are calls, too: 512 in all are what an object is made for.
        for (int i = 0; i < CALLS && !due.anyWrong(); i++) {
            int kind = random.nextInt(1000);
            if (kind < 4) {
                tellCounty();
                i += 20;
            } else if (kind < 8) {
                tellAnything();
                i += 20;
            } else if (kind < 600) {
                act();
            } else {
                ask();
            }
        }
    }

    private void is(String call, long want, long got) {
        due.is("run " + run + ": " + call, want, got);
    }

    private int person() {
        return random.nextInt(12) == 0 ? ODD[random.nextInt(ODD.length)] : random.nextInt(7);
    }

    private int small(int bound) {
        return random.nextInt(12) == 0 ? ODD[random.nextInt(ODD.length)] : random.nextInt(bound);
    }

    private void put(char letter) {
        is("write(" + (int) letter + ")", y.write(letter), x.write(letter));
    }

    private void put(String text) {
        for (int i = 0; i < text.length(); i++) {
            put(text.charAt(i));
        }
    }

    private void wipe() {
        is("wipe()", y.wipe(), x.wipe());
    }

    private void tellCounty() {
        wipe();
        put("A");
        int people = 1 + random.nextInt(7);
        int deeds = random.nextInt(3) == 0 ? 1 : 1 + random.nextInt(10);
        int kinds = 1 + random.nextInt(4);
        for (int i = 0; i < people; i++) {
            put("P" + random.nextInt(deeds) + (random.nextInt(3) == 0 ? random.nextInt(kinds) : 0));
        }
        boolean[] told = new boolean[100];
        int pairs = people < 2 ? 0 : random.nextInt(9);
        for (int i = 0; i < pairs; i++) {
            int one = random.nextInt(people);
            int other = random.nextInt(people);
            if (one != other && !told[10 * one + other]) {
                told[10 * one + other] = true;
                put("F" + one + other);
            }
        }
        is("fault()", y.fault(), x.fault());
        is("county()", y.county(), x.county());
        for (int p = 0; p < people; p++) {
            is("toFeed(" + p + ", 1)", y.toFeed(p, 1), x.toFeed(p, 1));
        }
    }

    /** Near a county, with faults of every sort; asked at each byte. */
    private void tellAnything() {
        wipe();
        put(random.nextInt(9) == 0 ? 'P' : 'A');
        int people = 0;
        int parts = random.nextInt(17);
        for (int i = 0; i < parts; i++) {
            if (people < 2 || random.nextInt(3) == 0) {
                people++;
                put(random.nextInt(20) == 0 ? "" : "P");
                put("" + random.nextInt(10));
                put("" + random.nextInt(random.nextInt(20) == 0 ? 10 : 4));
            } else {
                int bound = Math.min(9, people) + (random.nextInt(20) == 0 ? 1 : 0);
                put("F");
                put("" + random.nextInt(bound));
                put("" + random.nextInt(bound));
            }
            is("fault()", y.fault(), x.fault());
        }
        String tail = "PF0A9" + (char) 0 + (char) 255;
        for (int i = random.nextInt(4); i > 0; i--) {
            put(tail.charAt(random.nextInt(tail.length())));
            is("fault()", y.fault(), x.fault());
        }
        is("county()", y.county(), x.county());
    }

    private void act() {
        int p = person();
        int q = person();
        int deed = small(10);
        switch (random.nextInt(20)) {
            case 0: case 1: case 2:
                is("take(" + p + ")", y.take(p), x.take(p)); break;
            case 3: case 4: case 5: case 6:
                is("free(" + p + ")", y.free(p), x.free(p)); break;
            case 7:
                if (random.nextInt(3) == 0) {
                    is("die(" + p + ")", y.die(p), x.die(p));
                }
                break;
            case 8: case 9: case 10:
                is("feed(" + p + ", " + q + ")", y.feed(p, q), x.feed(p, q)); break;
            case 11: case 12:
                is("grade(" + p + ", " + deed + ")", y.grade(p, deed), x.grade(p, deed)); break;
            case 13:
                is("day()", y.day(), x.day()); break;
            case 14: case 15:
                is("undo()", y.undo(), x.undo()); break;
            case 16:
                is("see(" + p + ", " + q + ")", y.see(p, q), x.see(p, q)); break;
            case 17:
                if (random.nextInt(4) == 0) {
                    is("unsee()", y.unsee(), x.unsee());
                }
                break;
            case 18: {
                int slot = small(2);
                is("keep(" + slot + ")", y.keep(slot), x.keep(slot));
                break;
            }
            default: {
                int slot = small(2);
                is("again(" + slot + ")", y.again(slot), x.again(slot));
            }
        }
        for (int what = 1; what <= 6; what++) {
            is("about(" + what + ")", y.about(what), x.about(what));
        }
    }

    private void ask() {
        int p = person();
        int q = person();
        int what = small(2);
        boolean upper = random.nextBoolean();
        switch (random.nextInt(17)) {
            case 0: is("fall()", y.fall(), x.fall()); break;
            case 1: is("place(" + p + ")", y.place(p), x.place(p)); break;
            case 2: is("last()", y.last(), x.last()); break;
            case 3: case 4:
                is("toFeed(" + p + ", " + what + ")", y.toFeed(p, what), x.toFeed(p, what)); break;
            case 5: is("giveUp(" + p + ")", y.giveUp(p), x.giveUp(p)); break;
            case 6: case 7: is("claim(" + p + ")", y.claim(p), x.claim(p)); break;
            case 8:
                if (random.nextInt(3) == 0) {
                    is("share(" + p + ", " + upper + ")", y.share(p, upper), x.share(p, upper));
                }
                break;
            case 9: case 10: is("did(" + p + ")", y.did(p), x.did(p)); break;
            case 11: case 12:
                is("rests(" + p + ", " + q + ", " + what + ")", y.rests(p, q, what), x.rests(p, q, what));
                break;
            case 13: is("toss(" + p + ", " + upper + ")", y.toss(p, upper), x.toss(p, upper)); break;
            case 14: {
                long v = random.nextLong();
                is("seed(" + v + ")", y.seed(v), x.seed(v));
                break;
            }
            case 15: {
                int m = small(31);
                is("days(" + m + ")", y.days(m), x.days(m));
                break;
            }
            default: {
                int of = small(9);
                is("about(" + of + ")", y.about(of), x.about(of));
                is("person(" + p + ", " + of + ")", y.person(p, of), x.person(p, of));
            }
        }
    }
}
