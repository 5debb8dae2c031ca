/** Promises 12 to 18 and 20: the actions without the ticks, and undo. */
public final class ActionTest {
    private static final Check CHECK = new Check("ActionTest");
    private static final int[] WILD = {Integer.MIN_VALUE, Integer.MAX_VALUE};

    public static void main(String[] args) {
        light();
        lightRefuses();
        boat();
        steer();
        talk();
        lean();
        dim();
        set();
        undo();
        undoOfEach();
        undoForgetsTheOldest();
        refusedCallsAreNoActions();
        CHECK.end();
    }

    private static void light() {
        LanternBoats x = new LanternBoats();
        CHECK.due("light", 0, x.light(0, 10, 0, 1, 1, 0));
        CHECK.due("light", 1, x.light(199, 99, 2, 20, 6, 6));
        CHECK.due("light", 2, x.light(100, 50, 1, 10, 3, 3));
        CHECK.due("light", 3, x.light(100, 50, 1, 10, 3, 0));
        CHECK.due("light", 4, x.light(100, 50, 1, 10, 3, 0));
        CHECK.due("light", 5, x.light(100, 50, 1, 10, 3, 0));
        CHECK.wrongState("a seventh light", () -> x.light(100, 50, 1, 10, 3, 0));
        CHECK.outOfRange("a seventh light of kind 3", () -> x.light(100, 50, 3, 10, 3, 0));
        CHECK.noSuchIndex("a seventh light of kind 3 at 200", () -> x.light(200, 50, 3, 10, 3, 0));
        CHECK.due("lighthouses", 6, x.about(0));
        CHECK.due("undo", 5, x.undo());
        CHECK.due("light in place of the one taken back", 5, x.light(7, 50, 1, 10, 3, 0));
        CHECK.due("its place", 7, x.lightOf(5, 0));
    }

    private static void lightRefuses() {
        LanternBoats x = new LanternBoats();
        int[][] ranges = {{0, 199}, {10, 99}, {0, 2}, {1, 20}, {1, 6}};
        for (int i = 0; i < ranges.length; i++) {
            int[] bad = {ranges[i][0] - 1, ranges[i][1] + 1, WILD[0], WILD[1]};
            for (int v : bad) {
                int[] a = {100, 50, 0, 1, 3, 0};
                a[i] = v;
                CHECK.refused("light with " + v + " as argument " + i,
                        i == 0 ? IndexOutOfBoundsException.class : IllegalArgumentException.class,
                        () -> x.light(a[0], a[1], a[2], a[3], a[4], a[5]));
            }
        }
        for (int reserved : new int[] {-1, 4, 6, WILD[0], WILD[1]}) {
            CHECK.outOfRange("light that reserves " + reserved + " of 3", () -> x.light(100, 50, 0, 1, 3, reserved));
        }
        CHECK.noSuchIndex("light with nothing right", () -> x.light(-1, 0, -1, 0, 0, -1));
        CHECK.due("lighthouses", 0, x.about(0));
    }

    private static void boat() {
        LanternBoats x = new LanternBoats();
        x.light(0, 99, 0, 1, 6, 0);
        CHECK.due("boat", 0, x.boat(0, -6));
        CHECK.due("boat", 1, x.boat(199, 6));
        CHECK.due("its place", 199, x.boatOf(1, 0));
        CHECK.due("its speed", 6, x.boatOf(1, 1));
        CHECK.due("nothing serves it", -1, x.boatOf(0, 2));
        for (int speed : new int[] {-7, 7, WILD[0], WILD[1]}) {
            CHECK.outOfRange("boat(0, " + speed + ")", () -> x.boat(0, speed));
        }
        for (int p : new int[] {-1, 200, WILD[0], WILD[1]}) {
            CHECK.noSuchIndex("boat(" + p + ", 0)", () -> x.boat(p, 0));
            CHECK.noSuchIndex("boat(" + p + ", 7)", () -> x.boat(p, 7));
        }
        for (int b = 2; b < 8; b++) {
            CHECK.due("boat", b, x.boat(0, 0));
        }
        CHECK.wrongState("a ninth boat", () -> x.boat(0, 0));
        CHECK.outOfRange("a ninth boat of speed 7", () -> x.boat(0, 7));
        CHECK.noSuchIndex("a ninth boat at 200", () -> x.boat(200, 7));
        CHECK.due("boats", 8, x.about(1));
    }

    private static void steer() {
        LanternBoats x = new LanternBoats();
        x.boat(10, 2);
        x.boat(20, 3);
        CHECK.due("steer", 2, x.steer(0, -6));
        CHECK.due("steer", -6, x.steer(0, 6));
        CHECK.due("the speed", 6, x.boatOf(0, 1));
        CHECK.due("the speed of another", 3, x.boatOf(1, 1));
        for (int speed : new int[] {-7, 7, WILD[0], WILD[1]}) {
            CHECK.outOfRange("steer(0, " + speed + ")", () -> x.steer(0, speed));
        }
        for (int b : new int[] {-1, 2, 8, WILD[0], WILD[1]}) {
            CHECK.noSuchIndex("steer(" + b + ", 0)", () -> x.steer(b, 0));
            CHECK.noSuchIndex("steer(" + b + ", 7)", () -> x.steer(b, 7));
        }
    }

    private static void talk() {
        LanternBoats x = new LanternBoats();
        x.light(10, 99, 0, 1, 1, 0);
        x.boat(10, 0);
        x.boat(10, 0);
        CHECK.wrongState("talk of a boat that nothing serves", () -> x.talk(0, 1));
        x.ticks(1);
        CHECK.due("talk", 0, x.talk(0, 99));
        x.ticks(4);
        CHECK.due("talk in place of another", 95, x.talk(0, 1));
        CHECK.due("the ticks left", 1, x.boatOf(0, 3));
        CHECK.wrongState("talk of a boat that was not taken", () -> x.talk(1, 1));
        for (int n : new int[] {-1, 0, 100, WILD[0], WILD[1]}) {
            CHECK.outOfRange("talk(0, " + n + ")", () -> x.talk(0, n));
            CHECK.outOfRange("talk(1, " + n + ")", () -> x.talk(1, n));
        }
        for (int b : new int[] {-1, 2, 8, WILD[0], WILD[1]}) {
            CHECK.noSuchIndex("talk(" + b + ", 1)", () -> x.talk(b, 1));
            CHECK.noSuchIndex("talk(" + b + ", 0)", () -> x.talk(b, 0));
        }
        CHECK.due("the ticks left", 1, x.boatOf(0, 3));
    }

    private static void lean() {
        LanternBoats x = new LanternBoats();
        x.light(10, 99, 0, 1, 1, 0);
        CHECK.due("lean", 0, x.lean(0, 30));
        CHECK.due("lean", 30, x.lean(0, -30));
        CHECK.due("the leaning", -30, x.lightOf(0, 6));
        for (int v : new int[] {-31, 31, WILD[0], WILD[1]}) {
            CHECK.outOfRange("lean(0, " + v + ")", () -> x.lean(0, v));
        }
        for (int l : new int[] {-1, 1, 6, WILD[0], WILD[1]}) {
            CHECK.noSuchIndex("lean(" + l + ", 0)", () -> x.lean(l, 0));
            CHECK.noSuchIndex("lean(" + l + ", 31)", () -> x.lean(l, 31));
        }
    }

    private static void dim() {
        LanternBoats x = new LanternBoats();
        x.light(10, 50, 0, 1, 1, 0);
        CHECK.due("dim", 50, x.dim(0, 99));
        CHECK.due("dim", 99, x.dim(0, 10));
        CHECK.due("the strength", 10, x.lightOf(0, 1));
        CHECK.due("the brightness", 100, x.brightness(0, 10));
        for (int v : new int[] {9, 100, -1, WILD[0], WILD[1]}) {
            CHECK.outOfRange("dim(0, " + v + ")", () -> x.dim(0, v));
        }
        for (int l : new int[] {-1, 1, 6, WILD[0], WILD[1]}) {
            CHECK.noSuchIndex("dim(" + l + ", 50)", () -> x.dim(l, 50));
            CHECK.noSuchIndex("dim(" + l + ", 9)", () -> x.dim(l, 9));
        }
    }

    private static void set() {
        LanternBoats x = new LanternBoats();
        int[][] ranges = {{0, 100, 10}, {1, 10, 3}, {1, 300, 60}, {0, 50, 12}};
        for (int i = 0; i < ranges.length; i++) {
            int what = i;
            int[] range = ranges[i];
            CHECK.due("set(" + what + ", least)", range[2], x.set(what, range[0]));
            CHECK.due("set(" + what + ", most)", range[0], x.set(what, range[1]));
            CHECK.due("setting(" + what + ")", range[1], x.setting(what));
            for (int v : new int[] {range[0] - 1, range[1] + 1, WILD[0], WILD[1]}) {
                CHECK.outOfRange("set(" + what + ", " + v + ")", () -> x.set(what, v));
            }
            CHECK.due("setting(" + what + ")", range[1], x.setting(what));
        }
        for (int what : new int[] {-1, 4, WILD[0], WILD[1]}) {
            CHECK.outOfRange("set(" + what + ", 5)", () -> x.set(what, 5));
        }
    }

    private static void undo() {
        LanternBoats x = new LanternBoats();
        x.set(0, 10);
        CHECK.due("undo of what made nothing different", 0, x.undo());
        CHECK.wrongState("undo", x::undo);
        x.boat(5, 1);
        x.append('C');
        x.append('t');
        x.save(0);
        CHECK.due("undo", 0, x.undo());
        CHECK.due("boats", 0, x.about(1));
        CHECK.due("the text stays", 3, x.append('0'));
        x.restore(0);
        CHECK.due("the save slot stays", 1, x.about(1));
        CHECK.wrongState("undo behind restore", x::undo);
    }

    private static void undoOfEach() {
        for (int i = 0; i < 8; i++) {
            LanternBoats x = behind(i);
            String before = Coasts.seen(x);
            act(x, i);
            CHECK.holds("action " + i + " makes something different", !before.equals(Coasts.seen(x)));
            // Behind the three calls that made the coast, the ticks and the talk.
            CHECK.due("undo of action " + i, 5 + i, x.undo());
            CHECK.holds("undo of action " + i + " brings all back", before.equals(Coasts.seen(x)));
        }
        LanternBoats y = behind(8);
        CHECK.holds("the ticks hand on", y.about(5) > 0);
        for (int i = 7; i >= 0; i--) {
            CHECK.due("undo", 5 + i, y.undo());
        }
        CHECK.holds("all of them are taken back", Coasts.seen(behind(0)).equals(Coasts.seen(y)));
        y.ticks(3);
        CHECK.due("what undo brings back goes on as before", 1, y.about(5));
    }

    private static LanternBoats behind(int actions) {
        LanternBoats x = Coasts.twoLights(6, 2);
        x.ticks(6);
        x.talk(0, 20);
        for (int i = 0; i < actions; i++) {
            act(x, i);
        }
        return x;
    }

    private static int act(LanternBoats x, int i) {
        switch (i) {
            case 0:
                return x.light(70, 99, 1, 2, 3, 1);
            case 1:
                return x.boat(60, -5);
            case 2:
                return x.steer(0, 6);
            case 3:
                return x.talk(0, 2);
            case 4:
                return x.lean(1, 30);
            case 5:
                return x.dim(1, 80);
            case 6:
                return x.set(1, 1);
            default:
                return x.ticks(60);
        }
    }

    private static void undoForgetsTheOldest() {
        LanternBoats x = new LanternBoats();
        for (int v = 20; v < 60; v++) {
            x.set(0, v);
        }
        for (int i = 0; i < 14; i++) {
            CHECK.due("undo", 13 - i, x.undo());
            CHECK.due("the margin", 58 - i, x.setting(0));
        }
        CHECK.wrongState("a fifteenth undo", x::undo);
        CHECK.due("the margin", 45, x.setting(0));
        for (int v = 0; v < 14; v++) {
            x.set(0, v);
        }
        CHECK.due("undo of 14", 13, x.undo());
    }

    private static void refusedCallsAreNoActions() {
        LanternBoats x = new LanternBoats();
        x.light(10, 50, 0, 1, 1, 0);
        x.boat(10, 1);
        String before = Coasts.seen(x);
        CHECK.noSuchIndex("light", () -> x.light(200, 50, 0, 1, 1, 0));
        CHECK.noSuchIndex("boat", () -> x.boat(200, 0));
        CHECK.outOfRange("steer", () -> x.steer(0, 7));
        CHECK.wrongState("talk", () -> x.talk(0, 1));
        CHECK.outOfRange("lean", () -> x.lean(0, 31));
        CHECK.outOfRange("dim", () -> x.dim(0, 9));
        CHECK.outOfRange("set", () -> x.set(0, 101));
        CHECK.outOfRange("ticks", () -> x.ticks(61));
        CHECK.holds("calls that are refused change nothing", before.equals(Coasts.seen(x)));
        CHECK.due("undo", 1, x.undo());
        CHECK.due("boats", 0, x.about(1));
    }
}
