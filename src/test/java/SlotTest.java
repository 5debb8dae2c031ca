/** Promises 29 and 30: the save slots. */
public final class SlotTest {
    private static final Check CHECK = new Check("SlotTest");

    public static void main(String[] args) {
        save();
        restore();
        restoreForgets();
        newOnesAreNew();
        oldOnesAreOld();
        keepsTheText();
        refuses();
        CHECK.end();
    }

    private static void save() {
        LanternBoats x = new LanternBoats();
        CHECK.due("save at first", 0, x.save(1));
        x.ticks(7);
        CHECK.due("save", 7, x.save(0));
        CHECK.due("save is no action", 0, x.undo());
        CHECK.due("the time", 0, x.about(2));
    }

    private static void restore() {
        LanternBoats x = Coasts.twoLights(6, 0);
        x.ticks(8);
        x.talk(0, 30);
        x.set(2, 50);
        x.lean(1, 5);
        String first = Coasts.seen(x);
        x.save(0);
        x.light(5, 50, 1, 3, 2, 1);
        x.boat(60, 1);
        x.ticks(20);
        String second = Coasts.seen(x);
        x.save(1);
        x.ticks(9);
        CHECK.due("restore(0)", 8, x.restore(0));
        CHECK.holds("the first state is back", first.equals(Coasts.seen(x)));
        CHECK.due("and goes on as before", 1, x.ticks(1));
        CHECK.due("restore(0) again", 8, x.restore(0));
        CHECK.holds("the save slot keeps it", first.equals(Coasts.seen(x)));
        CHECK.due("restore(1)", 28, x.restore(1));
        CHECK.holds("the second state is back", second.equals(Coasts.seen(x)));
        x.ticks(1);
        x.save(0);
        CHECK.due("restore of what was saved last", 29, x.restore(0));
    }

    private static void restoreForgets() {
        LanternBoats x = new LanternBoats();
        x.boat(1, 1);
        x.save(0);
        x.boat(2, 1);
        x.restore(0);
        CHECK.wrongState("undo behind restore", x::undo);
        x.boat(3, 1);
        CHECK.due("undo of what came behind it", 0, x.undo());
        CHECK.due("boats", 1, x.about(1));
        for (int i = 0; i < 20; i++) {
            x.steer(0, i % 7);
        }
        x.restore(0);
        x.steer(0, 2);
        x.steer(0, 3);
        CHECK.due("undo", 1, x.undo());
        CHECK.due("undo", 0, x.undo());
        CHECK.due("the speed", 1, x.boatOf(0, 1));
    }

    /** What is brought back has nothing of those that stood in its place. */
    private static void oldOnesAreOld() {
        LanternBoats x = new LanternBoats();
        x.save(1);
        x.light(5, 10, 1, 2, 3, 1);
        x.boat(9, -1);
        x.save(0);
        x.restore(1);
        x.light(6, 50, 2, 3, 4, 2);
        x.lean(0, 7);
        x.boat(6, 1);
        x.ticks(2);
        x.talk(0, 8);
        x.restore(0);
        int[] light = {5, 10, 1, 2, 3, 1, 0, 0, 0};
        int[] boat = {9, -1, -1, 0, -1, 0, -1, 0, 0};
        for (int what = 0; what < 9; what++) {
            CHECK.due("lightOf(0, " + what + ")", light[what], x.lightOf(0, what));
            CHECK.due("boatOf(0, " + what + ")", boat[what], x.boatOf(0, what));
        }
    }

    /** A lighthouse and a boat that come where others were have nothing of those. */
    private static void newOnesAreNew() {
        LanternBoats x = new LanternBoats();
        x.save(0);
        x.light(0, 50, 0, 1, 6, 0);
        x.light(100, 50, 0, 1, 6, 0);
        x.boat(40, 2);
        x.ticks(9);
        x.steer(0, -6);
        x.ticks(4);
        x.lean(0, -30);
        x.lean(1, 30);
        x.talk(0, 99);
        x.steer(0, 6);
        x.ticks(2);
        int[] before = {46, 6, 0, 97, 1, 2, 1, 2, 1};
        for (int what = 0; what < 9; what++) {
            CHECK.due("boatOf(0, " + what + ")", before[what], x.boatOf(0, what));
        }
        x.restore(0);
        x.light(5, 10, 1, 2, 3, 1);
        x.light(6, 11, 2, 3, 4, 2);
        x.boat(199, 1);
        int[][] lights = {{5, 10, 1, 2, 3, 1, 0, 0, 0}, {6, 11, 2, 3, 4, 2, 0, 0, 0}};
        int[] boat = {199, 1, -1, 0, -1, 0, -1, 0, 0};
        for (int what = 0; what < 9; what++) {
            CHECK.due("lightOf(0, " + what + ")", lights[0][what], x.lightOf(0, what));
            CHECK.due("lightOf(1, " + what + ")", lights[1][what], x.lightOf(1, what));
            CHECK.due("boatOf(0, " + what + ")", boat[what], x.boatOf(0, what));
        }
    }

    private static void keepsTheText() {
        LanternBoats x = Coasts.withText("Cb05007");
        x.save(0);
        x.clearText();
        Coasts.write(x, "Ct");
        x.restore(0);
        CHECK.due("restore leaves the text as it is", 2, x.clearText());
    }

    private static void refuses() {
        LanternBoats x = new LanternBoats();
        x.save(1);
        CHECK.wrongState("restore of the empty slot", () -> x.restore(0));
        for (int slot : new int[] {-1, 2, Integer.MIN_VALUE, Integer.MAX_VALUE}) {
            CHECK.noSuchIndex("save(" + slot + ")", () -> x.save(slot));
            CHECK.noSuchIndex("restore(" + slot + ")", () -> x.restore(slot));
        }
        x.boat(1, 1);
        CHECK.wrongState("restore of the empty slot", () -> x.restore(0));
        CHECK.due("a restore that is refused forgets nothing", 0, x.undo());
    }
}
