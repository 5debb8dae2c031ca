import java.util.ArrayList;
import java.util.List;

/**
 * "A call that throws an exception changes nothing", and "if several exceptions apply, the one that its description
 * names first is thrown": every call that the document refuses, on an object with nothing in it, on one with some
 * things, and on one that is full, each on an object of its own that is taken apart behind it.
 */
public final class RefusedTest {
    private interface Start {
        LanternBoats make();
    }

    private interface Made {
        long on(LanternBoats x);
    }

    private static final Check CHECK = new Check("RefusedTest");
    private static final Class<? extends RuntimeException> INDEX = IndexOutOfBoundsException.class;
    private static final Class<? extends RuntimeException> ARGUMENT = IllegalArgumentException.class;
    private static final Class<? extends RuntimeException> STATE = IllegalStateException.class;
    private static final int LEAST = Integer.MIN_VALUE;
    private static final int MOST = Integer.MAX_VALUE;

    private final String title;
    private final Start start;
    private final int lights;
    private final int boats;
    private final String untouched;
    private final List<String> calls = new ArrayList<>();

    private RefusedTest(String title, Start start, int lights, int boats) {
        this.title = title;
        this.start = start;
        this.lights = lights;
        this.boats = boats;
        untouched = takenApart(start.make());
    }

    public static void main(String[] args) {
        startsAreWhatTheySay();
        RefusedTest empty = new RefusedTest("empty", LanternBoats::new, 0, 0);
        empty.whatIsRefusedAlways();
        empty.whatIsRefusedOfNothing();
        RefusedTest some = new RefusedTest("some", RefusedTest::some, 5, 7);
        some.whatIsRefusedAlways();
        some.whatIsRefusedOfSomething();
        RefusedTest full = new RefusedTest("full", RefusedTest::full, 6, 8);
        full.whatIsRefusedAlways();
        full.whatIsRefusedOfSomething();
        full.whatIsRefusedOfAllThatIsFull();
        CHECK.holds("the starts differ", !empty.untouched.equals(some.untouched)
                && !some.untouched.equals(full.untouched));
        CHECK.holds("many calls are refused: " + full.calls.size(), full.calls.size() > 200);
        CHECK.end();
    }

    // ---- the objects

    /** Five lighthouses for one boat each, seven boats, of which the last two are not served; a text with a fault. */
    private static LanternBoats some() {
        LanternBoats x = new LanternBoats();
        fill(x, 5, 7);
        x.save(1);
        x.ticks(2);
        Coasts.write(x, "Cb05007t0");
        return x;
    }

    /** Six lighthouses that are full, eight boats, 14 states remembered, both slots kept, a text of 120 characters. */
    private static LanternBoats full() {
        LanternBoats x = new LanternBoats();
        fill(x, 6, 8);
        x.save(0);
        for (int v = 1; v <= 16; v++) {
            x.lean(5, v);
        }
        x.save(1);
        x.ticks(3);
        Coasts.write(x, "Cl0505000110b05006" + "t01".repeat(34));
        return x;
    }

    private static void startsAreWhatTheySay() {
        LanternBoats x = full();
        CHECK.due("lighthouses", 6, x.about(0));
        CHECK.due("boats", 8, x.about(1));
        CHECK.due("boats that are served", 6, x.about(3));
        CHECK.due("boats that talk", 2, x.about(4));
        CHECK.due("room", 0, x.room());
        CHECK.due("the text is a coast", -1, x.errorPosition());
        CHECK.due("states remembered behind undo", 13, x.undo());
        CHECK.due("the text is full", 120, x.clearText());
        LanternBoats y = some();
        CHECK.due("lighthouses", 5, y.about(0));
        CHECK.due("boats", 7, y.about(1));
        CHECK.due("the lighthouse of the last boat", -1, y.boatOf(6, 2));
        CHECK.due("the text ends too soon", 9, y.errorPosition());
    }

    private static void fill(LanternBoats x, int lights, int boats) {
        x.set(0, 100);
        for (int l = 0; l < lights; l++) {
            x.light(100, 50, 0, 1, 1, 0);
        }
        for (int b = 0; b < boats; b++) {
            x.boat(100, 0);
        }
        x.ticks(1);
        x.talk(0, 99);
        x.talk(1, 5);
    }

    /** All that an object can tell in 512 calls: its state, the states remembered, the slots, the text. */
    private static String takenApart(LanternBoats x) {
        StringBuilder all = new StringBuilder(Coasts.seen(x));
        all.append("error ").append(x.errorPosition());
        boolean more = true;
        for (int i = 0; i < 20 && more; i++) {
            more = tell(all, "undo", x::undo);
            all.append(x.about(0)).append(x.about(1)).append(x.about(2)).append(x.setting(0));
        }
        for (int slot = 0; slot < 2; slot++) {
            int s = slot;
            tell(all, "restore", () -> x.restore(s));
            all.append(x.about(0)).append(x.about(1)).append(x.about(2));
            tell(all, "leaning", () -> x.lightOf(x.about(0) - 1, 6));
        }
        tell(all, "load", x::load);
        all.append(x.about(0)).append(x.about(1)).append(x.about(2));
        tell(all, "text", x::clearText);
        return all.toString();
    }

    private static boolean tell(StringBuilder all, String what, Check.Call call) {
        all.append(' ').append(what).append(' ');
        try {
            all.append(call.answer()).append(' ');
            return true;
        } catch (RuntimeException e) {
            all.append(e.getClass().getSimpleName()).append(' ');
            return false;
        }
    }

    private void refused(Class<? extends RuntimeException> due, String call, Made made) {
        LanternBoats x = start.make();
        CHECK.refused(title + ": " + call, due, () -> made.on(x));
        CHECK.holds(title + ": " + call + " is refused and changes something", untouched.equals(takenApart(x)));
        calls.add(call);
    }

    // ---- the calls

    private void whatIsRefusedAlways() {
        characters();
        numbers();
        lightsThatAreNone();
        boatsThatAreNone();
        placesThatAreNone();
        newLights();
        newBoats();
        settings();
        spans();
        scripts();
        slots();
    }

    private void characters() {
        for (int c : new int[] {-1, 256, LEAST, MOST}) {
            refused(ARGUMENT, "append(" + c + ")", x -> x.append(c));
        }
    }

    private void numbers() {
        for (int what : new int[] {-1, 10, LEAST, MOST}) {
            refused(ARGUMENT, "about(" + what + ")", x -> x.about(what));
        }
        for (int what : new int[] {-1, 4, LEAST, MOST}) {
            refused(ARGUMENT, "setting(" + what + ")", x -> x.setting(what));
        }
        for (int what : new int[] {-1, 2, LEAST, MOST}) {
            refused(ARGUMENT, "bestAt(0, " + what + ")", x -> x.bestAt(0, what));
            refused(ARGUMENT, "bestAt(199, " + what + ")", x -> x.bestAt(199, what));
        }
        for (int k : new int[] {-1, LEAST}) {
            refused(ARGUMENT, "border(" + k + ")", x -> x.border(k));
        }
    }

    /** Where another argument is out of its range too, the lighthouse that does not exist is named first. */
    private void lightsThatAreNone() {
        for (int l : new int[] {-1, lights, 6, LEAST, MOST}) {
            refused(INDEX, "lightOf(" + l + ", 0)", x -> x.lightOf(l, 0));
            refused(INDEX, "lightOf(" + l + ", 9)", x -> x.lightOf(l, 9));
            refused(INDEX, "brightness(" + l + ", 0)", x -> x.brightness(l, 0));
            refused(INDEX, "brightness(" + l + ", 200)", x -> x.brightness(l, 200));
            refused(INDEX, "lean(" + l + ", 0)", x -> x.lean(l, 0));
            refused(INDEX, "lean(" + l + ", 31)", x -> x.lean(l, 31));
            refused(INDEX, "dim(" + l + ", 10)", x -> x.dim(l, 10));
            refused(INDEX, "dim(" + l + ", 9)", x -> x.dim(l, 9));
        }
    }

    private void boatsThatAreNone() {
        for (int b : new int[] {-1, boats, 8, LEAST, MOST}) {
            refused(INDEX, "boatOf(" + b + ", 0)", x -> x.boatOf(b, 0));
            refused(INDEX, "boatOf(" + b + ", 9)", x -> x.boatOf(b, 9));
            refused(INDEX, "steer(" + b + ", 0)", x -> x.steer(b, 0));
            refused(INDEX, "steer(" + b + ", 7)", x -> x.steer(b, 7));
            refused(INDEX, "talk(" + b + ", 1)", x -> x.talk(b, 1));
            refused(INDEX, "talk(" + b + ", 0)", x -> x.talk(b, 0));
            refused(INDEX, "handedIn(" + b + ", 0)", x -> x.handedIn(b, 0));
            refused(INDEX, "handedIn(" + b + ", 3)", x -> x.handedIn(b, 3));
        }
    }

    private void placesThatAreNone() {
        for (int p : new int[] {-1, 200, LEAST, MOST}) {
            refused(INDEX, "brightness(0, " + p + ")", x -> x.brightness(0, p));
            refused(INDEX, "bestAt(" + p + ", 0)", x -> x.bestAt(p, 0));
            refused(INDEX, "bestAt(" + p + ", 2)", x -> x.bestAt(p, 2));
            refused(INDEX, "light at " + p, x -> x.light(p, 50, 0, 1, 1, 0));
            refused(INDEX, "light of strength 9 at " + p, x -> x.light(p, 9, 3, 0, 7, -1));
            refused(INDEX, "boat(" + p + ", 0)", x -> x.boat(p, 0));
            refused(INDEX, "boat(" + p + ", 7)", x -> x.boat(p, 7));
        }
    }

    private void newLights() {
        int[][] ranges = {{10, 99}, {0, 2}, {1, 20}, {1, 6}};
        for (int i = 0; i < ranges.length; i++) {
            for (int bad : new int[] {ranges[i][0] - 1, ranges[i][1] + 1, LEAST, MOST}) {
                int[] a = {50, 0, 1, 6};
                a[i] = bad;
                refused(ARGUMENT, "light with " + bad + " as argument " + (i + 1),
                        x -> x.light(199, a[0], a[1], a[2], a[3], 0));
            }
        }
        for (int n = 1; n <= 6; n++) {
            int most = n;
            refused(ARGUMENT, "light that reserves more than its " + n, x -> x.light(0, 50, 0, 1, most, most + 1));
            refused(ARGUMENT, "light for " + n + " that reserves -1", x -> x.light(0, 50, 0, 1, most, -1));
        }
        refused(ARGUMENT, "light that reserves most", x -> x.light(0, 50, 0, 1, 6, MOST));
        refused(ARGUMENT, "light that reserves least", x -> x.light(0, 50, 0, 1, 6, LEAST));
    }

    private void newBoats() {
        for (int speed : new int[] {-7, 7, LEAST, MOST}) {
            refused(ARGUMENT, "boat(0, " + speed + ")", x -> x.boat(0, speed));
            refused(ARGUMENT, "boat(199, " + speed + ")", x -> x.boat(199, speed));
        }
    }

    private void settings() {
        int[][] ranges = {{0, 100}, {1, 10}, {1, 300}, {0, 50}};
        for (int i = 0; i < ranges.length; i++) {
            int what = i;
            for (int v : new int[] {ranges[i][0] - 1, ranges[i][1] + 1, LEAST, MOST}) {
                refused(ARGUMENT, "set(" + what + ", " + v + ")", x -> x.set(what, v));
            }
        }
        for (int what : new int[] {-1, 4, LEAST, MOST}) {
            refused(ARGUMENT, "set(" + what + ", 5)", x -> x.set(what, 5));
            refused(ARGUMENT, "set(" + what + ", -1)", x -> x.set(what, -1));
        }
    }

    private void spans() {
        for (int n : new int[] {0, 61, -1, LEAST, MOST}) {
            refused(ARGUMENT, "ticks(" + n + ")", x -> x.ticks(n));
            refused(ARGUMENT, "simulate(1, " + n + ")", x -> x.simulate(1, n));
        }
        for (int n : new int[] {0, 101, -1, LEAST, MOST}) {
            refused(ARGUMENT, "bestMargin(" + n + ")", x -> x.bestMargin(n));
        }
        int[][] ranges = {{0, 100}, {1, 200}, {0, 3}};
        for (int i = 0; i < ranges.length; i++) {
            for (int bad : new int[] {ranges[i][0] - 1, ranges[i][1] + 1, LEAST, MOST}) {
                int[] a = {10, 10, 0};
                a[i] = bad;
                refused(ARGUMENT, "ifMargin with " + bad + " as argument " + i, x -> x.ifMargin(a[0], a[1], a[2]));
            }
        }
    }

    private void scripts() {
        for (int n : new int[] {0, 4, -1, LEAST, MOST}) {
            refused(ARGUMENT, "runScript(" + n + ", 100001)", x -> x.runScript(n, 100001));
        }
        long[] tooLong = {1000000L, 1000000000000L, 1000000000000000000L};
        for (int n = 1; n <= 3; n++) {
            int commands = n;
            for (long script : new long[] {tooLong[n - 1], -1, Long.MIN_VALUE, Long.MAX_VALUE}) {
                refused(ARGUMENT, "runScript(" + n + ", " + script + ")", x -> x.runScript(commands, script));
            }
        }
    }

    private void slots() {
        for (int slot : new int[] {-1, 2, LEAST, MOST}) {
            refused(INDEX, "save(" + slot + ")", x -> x.save(slot));
            refused(INDEX, "restore(" + slot + ")", x -> x.restore(slot));
        }
    }

    private void whatIsRefusedOfNothing() {
        refused(STATE, "load of the empty text", x -> x.load());
        refused(STATE, "undo", x -> x.undo());
        refused(STATE, "restore(0)", x -> x.restore(0));
        refused(STATE, "restore(1)", x -> x.restore(1));
    }

    /** The lighthouses and boats are there, the first and the last; the last boat is one that nothing serves. */
    private void whatIsRefusedOfSomething() {
        for (int at : new int[] {0, 1}) {
            int l = at * (lights - 1);
            int b = at * (boats - 1);
            for (int what : new int[] {-1, 9, LEAST, MOST}) {
                refused(ARGUMENT, "lightOf(" + l + ", " + what + ")", x -> x.lightOf(l, what));
                refused(ARGUMENT, "boatOf(" + b + ", " + what + ")", x -> x.boatOf(b, what));
            }
            for (int v : new int[] {-31, 31, LEAST, MOST}) {
                refused(ARGUMENT, "lean(" + l + ", " + v + ")", x -> x.lean(l, v));
            }
            for (int v : new int[] {9, 100, LEAST, MOST}) {
                refused(ARGUMENT, "dim(" + l + ", " + v + ")", x -> x.dim(l, v));
            }
            for (int v : new int[] {-7, 7, LEAST, MOST}) {
                refused(ARGUMENT, "steer(" + b + ", " + v + ")", x -> x.steer(b, v));
            }
            for (int n : new int[] {0, 100, -1, LEAST, MOST}) {
                refused(ARGUMENT, "talk(" + b + ", " + n + ")", x -> x.talk(b, n));
            }
            for (int what : new int[] {-1, 3, LEAST, MOST}) {
                refused(ARGUMENT, "handedIn(" + b + ", " + what + ")", x -> x.handedIn(b, what));
            }
        }
        refused(STATE, "talk of a boat that nothing serves", x -> x.talk(boats - 1, 1));
        refused(STATE, "the longest talk of such a boat", x -> x.talk(boats - 1, 99));
        if (boats < 8) {
            refused(STATE, "load of a text that ends too soon", x -> x.load());
            refused(STATE, "restore of the slot that is empty", x -> x.restore(0));
        }
    }

    private void whatIsRefusedOfAllThatIsFull() {
        refused(STATE, "append to 120 characters", x -> x.append('t'));
        refused(STATE, "append(0) to 120 characters", x -> x.append(0));
        refused(STATE, "a seventh lighthouse", x -> x.light(0, 10, 0, 1, 1, 0));
        refused(STATE, "a seventh lighthouse, the greatest", x -> x.light(199, 99, 2, 20, 6, 6));
        refused(STATE, "a ninth boat", x -> x.boat(0, -6));
        refused(STATE, "a ninth boat at the end", x -> x.boat(199, 6));
    }
}
