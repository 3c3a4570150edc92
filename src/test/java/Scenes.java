import java.util.List;

/** Objects that stand at an edge, and what can be asked of an object to see how it stands. */
final class Scenes {
    static final int UNKNOWN = -1, BAD = -2, LATE = -3, FULL = -4, NONE = -9;

    static final int MOST_PEOPLE = 7, MOST_BYTES = 48, MOST_ACTS = 14, MOST_SEEN = 6, MOST_DAYS = 30;

    /** Seven people and eight pairs: 46 bytes, no county is longer. */
    static final String LONGEST = "AP90P50P52P31P33P70P60F15F20F43F12F34F53F06F65";

    private Scenes() { }

    static void put(ArrestOrder x, String text) {
        for (int i = 0; i < text.length(); i++) {
            x.write(text.charAt(i));
        }
    }

    static void tell(ArrestOrder x, String text) {
        x.wipe();
        put(x, text);
    }

    static ArrestOrder of(String text) {
        ArrestOrder x = new ArrestOrder();
        make(x, text);
        return x;
    }

    static void make(ArrestOrder x, String text) {
        tell(x, text);
        if (x.county() < 0) {
            System.out.println(text + " is no county");
            System.exit(1);
        }
    }

    /** So many people that are told alike: the bytes of a PERSON, then how many. */
    static String alike(String person, int count) {
        return "A" + person.repeat(count);
    }

    static boolean isIn(int bits, int person) {
        return (bits >> person & 1) == 1;
    }

    /** All that can be asked of how an object stands without changing it. */
    static String state(ArrestOrder x) {
        StringBuilder all = new StringBuilder(acted(x));
        all.append(x.about(7)).append(' ').append(x.about(8)).append(' ').append(x.fault()).append(' ');
        int people = x.about(0);
        for (int person = 0; person < people; person++) {
            all.append(x.person(person, 1)).append(' ').append(x.person(person, 2)).append(' ');
            all.append(x.did(person)).append(' ');
        }
        return all.toString();
    }

    /** What ACTS change. */
    static String acted(ArrestOrder x) {
        StringBuilder all = new StringBuilder();
        for (int what = 0; what <= 6; what++) {
            all.append(x.about(what)).append(' ');
        }
        int people = x.about(0);
        for (int person = 0; person < people; person++) {
            all.append(x.person(person, 0)).append(' ').append(x.person(person, 3)).append(' ');
        }
        return all.toString();
    }

    /** Ways to use an object up that bring to light what it holds: each takes an object of its own. */
    enum Probe {
        NOW {
            @Override String of(ArrestOrder x) {
                return state(x) + x.seed(0) + ' ' + x.unsee();
            }
        },
        ACTS {
            @Override String of(ArrestOrder x) {
                StringBuilder all = new StringBuilder();
                for (int i = 0; i <= MOST_ACTS; i++) {
                    all.append(x.undo()).append(": ").append(acted(x));
                }
                return all.toString();
            }
        },
        SLOTS {
            @Override String of(ArrestOrder x) {
                return x.again(0) + ": " + acted(x) + x.again(1) + ": " + acted(x);
            }
        },
        TEXT {
            @Override String of(ArrestOrder x) {
                return x.fault() + " " + x.county() + ": " + state(x) + x.write('P') + ' ' + x.fault();
            }
        },
        /** Where all are alike each pair that is SEEN says something of what one DID. */
        SEEN {
            @Override String of(ArrestOrder x) {
                make(x, alike("P50", MOST_PEOPLE));
                return state(x) + x.see(0, 1) + ' ' + state(x);
            }
        };

        abstract String of(ArrestOrder x);
    }

    /** An object made by a fixed run of calls, and what the document says of it. */
    abstract static class Scene {
        final String name;
        int people;
        int large;
        int may;
        int dead;
        int[] deeds = {};
        int acts;
        int seen;
        int kept;
        int bytes;
        boolean isCounty;

        Scene(String name) {
            this.name = name;
        }

        abstract ArrestOrder make();
    }

    static List<Scene> all() {
        return List.of(nobody(), emptyCounty(), one(), some(), full());
    }

    private static Scene nobody() {
        return new Scene("nobody") {
            @Override ArrestOrder make() {
                return new ArrestOrder();
            }
        };
    }

    private static Scene emptyCounty() {
        Scene scene = new Scene("the empty county") {
            @Override ArrestOrder make() {
                ArrestOrder x = of("A");
                x.keep(1);
                x.day();
                x.seed(-3);
                return x;
            }
        };
        scene.acts = 1;
        scene.kept = 2;
        scene.bytes = 1;
        scene.isCounty = true;
        return scene;
    }

    private static Scene one() {
        Scene scene = new Scene("one alone") {
            @Override ArrestOrder make() {
                return of("AP90");
            }
        };
        scene.people = 1;
        scene.large = 1;
        scene.may = 1;
        scene.deeds = new int[] {9};
        scene.bytes = 4;
        scene.isCounty = true;
        return scene;
    }

    /** 0 and 4 are at large and equal; 1 was taken, 2 is dead, 3 is hidden and less. */
    private static Scene some() {
        Scene scene = new Scene("some") {
            @Override ArrestOrder make() {
                ArrestOrder x = of("AP50P80P70P40P50F03F12");
                x.see(1, 0);
                x.see(0, 3);
                x.take(1);
                x.keep(0);
                x.die(2);
                x.seed(17);
                tell(x, "AP10P2");
                return x;
            }
        };
        scene.people = 5;
        scene.large = 1 + 8 + 16;
        scene.may = 1 + 16;
        scene.dead = 4;
        scene.deeds = new int[] {5, 8, 7, 4, 5};
        scene.acts = 2;
        scene.seen = 2;
        scene.kept = 1;
        scene.bytes = 6;
        return scene;
    }

    /** Every row is full, and the first ACTS are forgotten; 0, the worst, is hidden by 6. */
    private static Scene full() {
        Scene scene = new Scene("all full") {
            @Override ArrestOrder make() {
                ArrestOrder x = of(LONGEST);
                put(x, "F0");
                x.keep(0);
                x.grade(1, 6);
                x.grade(1, 5);
                x.feed(2, 0);
                x.take(0);
                x.die(2);
                x.day();
                x.feed(1, 5);
                x.feed(6, 5);
                x.day();
                x.keep(1);
                x.free(5);
                x.grade(5, 8);
                x.take(5);
                x.free(0);
                x.feed(6, 0);
                x.feed(3, 6);
                x.grade(4, 9);
                int[] ahead = {0, 0, 1, 2, 3, 5};
                int[] behind = {1, 6, 3, 4, 5, 6};
                for (int i = 0; i < ahead.length; i++) {
                    x.see(ahead[i], behind[i]);
                }
                x.seed(Long.MIN_VALUE + 12345);
                return x;
            }
        };
        scene.people = MOST_PEOPLE;
        scene.large = 1 + 2 + 8 + 16 + 64;
        scene.dead = 4;
        scene.deeds = new int[] {9, 5, 5, 3, 9, 8, 6};
        scene.acts = MOST_ACTS;
        scene.seen = MOST_SEEN;
        scene.kept = 3;
        scene.bytes = MOST_BYTES;
        return scene;
    }
}
