/** Promises 1, 6 to 18, 20, 29 and 30 at their edges: the smallest and the largest of all, nothing there, all full. */
public final class StateEdgeTest {
    private static final Check CHECK = new Check("StateEdgeTest");
    private static final int NONE = -1;

    public static void main(String[] args) {
        newObject();
        objectsApart();
        aboutOfAllThatThereCanBe();
        lastLightAndLastBoat();
        everySmallestAndLargestLight();
        everyReservation();
        everySmallestAndLargestBoat();
        brightnessAtTheEnds();
        brightnessOfBlinking();
        brightnessToOneSide();
        bestAtTheEnds();
        steerTalkLeanAndDim();
        talkInPlaceOfAnother();
        settings();
        undoOfNothing();
        undoOfFourteen();
        undoOfFifteen();
        undoIsNoAction();
        readingIsNoAction();
        undoOfWhatMadeNothingDifferent();
        slots();
        slotsBehindLoad();
        slotsKeepTheirStates();
        restoreForgetsAll();
        CHECK.end();
    }

    // ---- 1.

    private static void newObject() {
        LanternBoats x = new LanternBoats();
        for (int what = 0; what <= 9; what++) {
            CHECK.due("about(" + what + ")", 0, x.about(what));
        }
        int[] settings = {10, 3, 60, 12};
        for (int what = 0; what <= 3; what++) {
            CHECK.due("setting(" + what + ")", settings[what], x.setting(what));
        }
        for (int p : new int[] {0, 199}) {
            CHECK.due("bestAt(" + p + ", 0)", NONE, x.bestAt(p, 0));
            CHECK.due("bestAt(" + p + ", 1)", 0, x.bestAt(p, 1));
            CHECK.noSuchIndex("brightness(0, " + p + ")", () -> x.brightness(0, p));
        }
        CHECK.noSuchIndex("lightOf(0, 0)", () -> x.lightOf(0, 0));
        CHECK.noSuchIndex("boatOf(0, 0)", () -> x.boatOf(0, 0));
        CHECK.noSuchIndex("handedIn(0, 0)", () -> x.handedIn(0, 0));
        CHECK.due("ifMargin", 0, x.ifMargin(0, 200, 0));
        CHECK.due("bestMargin", 0, x.bestMargin(100));
        CHECK.due("dark", 200, x.dark());
        CHECK.due("border", NONE, x.border(0));
        CHECK.due("room", 0, x.room());
        CHECK.due("errorPosition", 0, x.errorPosition());
        CHECK.due("clearText", 0, x.clearText());
        CHECK.wrongState("load", x::load);
        CHECK.wrongState("undo", x::undo);
        CHECK.wrongState("restore(0)", () -> x.restore(0));
        CHECK.wrongState("restore(1)", () -> x.restore(1));
    }

    private static void objectsApart() {
        LanternBoats x = new LanternBoats();
        LanternBoats y = new LanternBoats();
        x.light(0, 50, 0, 1, 1, 0);
        x.boat(0, 1);
        x.set(0, 50);
        x.ticks(1);
        x.append('C');
        x.save(0);
        CHECK.due("the lighthouses of another object", 0, y.about(0));
        CHECK.due("its boats", 0, y.about(1));
        CHECK.due("its time", 0, y.about(2));
        CHECK.due("its margin", 10, y.setting(0));
        CHECK.due("its text", 0, y.clearText());
        CHECK.wrongState("its states", y::undo);
        CHECK.wrongState("its slot", () -> y.restore(0));
        CHECK.due("a third object", 0, new LanternBoats().about(0));
        CHECK.due("the first one still", 1, x.about(0));
    }

    // ---- 6. to 8.

    private static void aboutOfAllThatThereCanBe() {
        LanternBoats x = new LanternBoats();
        for (int l = 0; l < 6; l++) {
            CHECK.due("light", l, x.light(100, 50, 0, 1, 6, 0));
        }
        for (int b = 0; b < 8; b++) {
            CHECK.due("boat", b, x.boat(100, 0));
        }
        x.ticks(1);
        for (int b = 0; b < 8; b++) {
            CHECK.due("talk", 0, x.talk(b, 99));
        }
        CHECK.due("lighthouses", 6, x.about(0));
        CHECK.due("boats", 8, x.about(1));
        CHECK.due("boats that are served", 8, x.about(3));
        CHECK.due("boats that talk", 8, x.about(4));
        CHECK.due("served without being handed on", 8, x.about(9));
        CHECK.due("the boats of the first", 63, x.lightOf(0, 7));
        CHECK.due("the boats of the second", 64 + 128, x.lightOf(1, 7));
        x.steer(0, 6);
        for (int i = 0; i < 8; i++) {
            x.dim(i % 6, 10);
        }
        x.set(2, 300);
        x.ticks(1);
        CHECK.due("talks lost", 8, x.about(8));
        CHECK.due("boats that are served", 0, x.about(3));
        CHECK.due("boats that talk", 0, x.about(4));
        CHECK.outOfRange("about(-1)", () -> x.about(-1));
        CHECK.outOfRange("about(10)", () -> x.about(10));
    }

    private static void lastLightAndLastBoat() {
        LanternBoats x = new LanternBoats();
        for (int l = 0; l < 6; l++) {
            int next = l;
            CHECK.noSuchIndex("lightOf(" + l + ", 8)", () -> x.lightOf(next, 8));
            x.light(199 - l, 99 - l, l % 3, 20 - l, 6 - l, l > 2 ? 0 : 6 - l);
            int[] due = {199 - l, 99 - l, l % 3, 20 - l, 6 - l, l > 2 ? 0 : 6 - l, 0, 0, 0};
            for (int what = 0; what <= 8; what++) {
                CHECK.due("lightOf(" + l + ", " + what + ")", due[what], x.lightOf(l, what));
            }
        }
        for (int b = 0; b < 8; b++) {
            int next = b;
            CHECK.noSuchIndex("boatOf(" + b + ", 8)", () -> x.boatOf(next, 8));
            x.boat(b, b - 2);
            int[] due = {b, b - 2, NONE, 0, NONE, 0, NONE, 0, 0};
            for (int what = 0; what <= 8; what++) {
                CHECK.due("boatOf(" + b + ", " + what + ")", due[what], x.boatOf(b, what));
            }
        }
        CHECK.noSuchIndex("lightOf(6, 0)", () -> x.lightOf(6, 0));
        CHECK.noSuchIndex("boatOf(8, 0)", () -> x.boatOf(8, 0));
        CHECK.outOfRange("lightOf(5, 9)", () -> x.lightOf(5, 9));
        CHECK.outOfRange("boatOf(7, 9)", () -> x.boatOf(7, 9));
    }

    // ---- 12., 13.

    private static void everySmallestAndLargestLight() {
        int[][] ranges = {{0, 199}, {10, 99}, {0, 2}, {1, 20}, {1, 6}};
        for (int i = 0; i < ranges.length; i++) {
            for (int end : ranges[i]) {
                int[] a = {100, 50, 1, 10, 3};
                a[i] = end;
                LanternBoats x = new LanternBoats();
                CHECK.due("light with " + end + " as argument " + i, 0, x.light(a[0], a[1], a[2], a[3], a[4], 0));
                for (int what = 0; what < 5; what++) {
                    CHECK.due("lightOf(0, " + what + ")", a[what], x.lightOf(0, what));
                }
            }
        }
        LanternBoats full = new LanternBoats();
        for (int l = 0; l < 6; l++) {
            CHECK.due("light", l, full.light(0, 10, 0, 1, 1, 0));
        }
        CHECK.wrongState("a seventh", () -> full.light(0, 10, 0, 1, 1, 0));
        CHECK.outOfRange("a seventh that reserves too many", () -> full.light(0, 10, 0, 1, 1, 2));
        CHECK.noSuchIndex("a seventh at -1 that reserves too many", () -> full.light(-1, 10, 0, 1, 1, 2));
        full.undo();
        CHECK.due("a sixth once more", 5, full.light(0, 10, 0, 1, 1, 0));
    }

    private static void everyReservation() {
        for (int n = 1; n <= 6; n++) {
            int most = n;
            for (int reserved = 0; reserved <= most; reserved++) {
                LanternBoats x = new LanternBoats();
                CHECK.due("light for " + most + " that reserves " + reserved, 0,
                        x.light(0, 10, 0, 1, most, reserved));
                CHECK.due("those reserved", reserved, x.lightOf(0, 5));
                CHECK.due("room, those reserved too", most, x.room());
            }
            LanternBoats y = new LanternBoats();
            CHECK.outOfRange("one more than " + most, () -> y.light(0, 10, 0, 1, most, most + 1));
            CHECK.outOfRange("-1 of " + most, () -> y.light(0, 10, 0, 1, most, -1));
        }
    }

    private static void everySmallestAndLargestBoat() {
        LanternBoats x = new LanternBoats();
        int b = 0;
        for (int p : new int[] {0, 199}) {
            for (int speed : new int[] {-6, 0, 6}) {
                CHECK.due("boat(" + p + ", " + speed + ")", b, x.boat(p, speed));
                CHECK.due("its place", p, x.boatOf(b, 0));
                CHECK.due("its speed", speed, x.boatOf(b, 1));
                CHECK.due("nothing serves it", NONE, x.boatOf(b, 2));
                b++;
            }
        }
        x.boat(5, 1);
        CHECK.due("the eighth boat", 7, x.boat(5, 1));
        CHECK.wrongState("a ninth", () -> x.boat(5, 1));
        CHECK.outOfRange("a ninth of speed -7", () -> x.boat(5, -7));
        CHECK.noSuchIndex("a ninth of speed -7 at -1", () -> x.boat(-1, -7));
        x.undo();
        CHECK.due("the eighth boat once more", 7, x.boat(6, 1));
    }

    // ---- 9., 10.

    private static void brightnessAtTheEnds() {
        LanternBoats x = new LanternBoats();
        x.light(0, 10, 0, 20, 1, 0);
        x.light(0, 99, 0, 20, 1, 0);
        x.light(199, 10, 0, 1, 1, 0);
        x.light(199, 99, 0, 1, 1, 0);
        int[][] due = {{100, 90, 4}, {990, 900, 47}, {4, 4, 100}, {47, 47, 990}};
        for (int l = 0; l < 4; l++) {
            CHECK.due("brightness(" + l + ", 0)", due[l][0], x.brightness(l, 0));
            CHECK.due("brightness(" + l + ", 1)", due[l][1], x.brightness(l, 1));
            CHECK.due("brightness(" + l + ", 199)", due[l][2], x.brightness(l, 199));
        }
        CHECK.noSuchIndex("brightness(4, 0)", () -> x.brightness(4, 0));
        CHECK.noSuchIndex("brightness(3, 200)", () -> x.brightness(3, 200));
        CHECK.noSuchIndex("brightness(3, -1)", () -> x.brightness(3, -1));
    }

    /** 1100 / 20 is 55, half of which is 27; the time goes past n, 2 n and so on. */
    private static void brightnessOfBlinking() {
        for (int n = 1; n <= 20; n++) {
            LanternBoats x = new LanternBoats();
            x.light(100, 11, 1, n, 1, 0);
            x.light(100, 11, 0, n, 1, 0);
            for (int turn = 0; turn < 6; turn++) {
                int whole = turn % 2 == 0 ? 55 : 27;
                CHECK.due("n " + n + " at the time " + x.about(2), whole, x.brightness(0, 110));
                if (n > 1) {
                    x.ticks(n - 1);
                    CHECK.due("n " + n + " at the time " + x.about(2), whole, x.brightness(0, 90));
                }
                x.ticks(1);
                CHECK.due("a steady one", 55, x.brightness(1, 110));
            }
        }
    }

    private static void brightnessToOneSide() {
        for (int n = 1; n <= 20; n++) {
            boolean odd = n % 2 == 1;
            LanternBoats x = new LanternBoats();
            x.light(100, 22, 2, n, 1, 0);
            x.light(0, 22, 2, n, 1, 0);
            x.light(199, 22, 2, n, 1, 0);
            String call = "n " + n + ": ";
            CHECK.due(call + "at its place", 220, x.brightness(0, 100));
            CHECK.due(call + "one place less", odd ? 0 : 200, x.brightness(0, 99));
            CHECK.due(call + "one place more", odd ? 200 : 0, x.brightness(0, 101));
            CHECK.due(call + "at place 0 of its own", 220, x.brightness(1, 0));
            CHECK.due(call + "at 199 from 0", odd ? 10 : 0, x.brightness(1, 199));
            CHECK.due(call + "at place 199 of its own", 220, x.brightness(2, 199));
            CHECK.due(call + "at 0 from 199", odd ? 0 : 10, x.brightness(2, 0));
            x.ticks(n);
            CHECK.due(call + "it does not blink", 220, x.brightness(0, 100));
        }
    }

    private static void bestAtTheEnds() {
        LanternBoats x = new LanternBoats();
        for (int l = 0; l < 6; l++) {
            x.light(100, 10, 0, 1, 1, 0);
        }
        CHECK.due("of six with the same worth", 0, x.bestAt(0, 0));
        CHECK.due("its worth", 9, x.bestAt(0, 1));
        x.lean(5, 1);
        CHECK.due("of six the last", 5, x.bestAt(199, 0));
        CHECK.due("its worth", 10, x.bestAt(199, 1));
        x.lean(2, 1);
        CHECK.due("of the two greatest the lower", 2, x.bestAt(199, 0));
        for (int l = 0; l < 6; l++) {
            x.lean(l, -30);
        }
        CHECK.due("of worths below 0", 0, x.bestAt(199, 0));
        CHECK.due("its worth", 9 - 30, x.bestAt(199, 1));
        x.lean(4, -29);
        CHECK.due("the greatest of those below 0", 4, x.bestAt(199, 0));
        CHECK.noSuchIndex("bestAt(-1, -1)", () -> x.bestAt(-1, -1));
        CHECK.noSuchIndex("bestAt(200, 0)", () -> x.bestAt(200, 0));
        CHECK.outOfRange("bestAt(199, 2)", () -> x.bestAt(199, 2));
        CHECK.outOfRange("bestAt(0, -1)", () -> x.bestAt(0, -1));
    }

    // ---- 14. to 18.

    private static void steerTalkLeanAndDim() {
        LanternBoats x = new LanternBoats();
        for (int l = 0; l < 6; l++) {
            x.light(100, 50, 0, 1, 6, 0);
        }
        for (int b = 0; b < 8; b++) {
            x.boat(100, 0);
        }
        x.ticks(1);
        for (int b : new int[] {0, 7}) {
            CHECK.due("steer", 0, x.steer(b, -6));
            CHECK.due("steer", -6, x.steer(b, 6));
            CHECK.due("steer", 6, x.steer(b, 0));
            CHECK.due("steer to the same", 0, x.steer(b, 0));
            CHECK.due("talk", 0, x.talk(b, 1));
            CHECK.due("talk", 1, x.talk(b, 99));
            CHECK.due("talk", 99, x.talk(b, 99));
            CHECK.due("the ticks left", 99, x.boatOf(b, 3));
        }
        for (int l : new int[] {0, 5}) {
            CHECK.due("lean", 0, x.lean(l, -30));
            CHECK.due("lean", -30, x.lean(l, 30));
            CHECK.due("the worth", 530, x.bestAt(100, 1));
            CHECK.due("lean", 30, x.lean(l, 0));
            CHECK.due("dim", 50, x.dim(l, 10));
            CHECK.due("the brightness", 100, x.brightness(l, 100));
            CHECK.due("dim", 10, x.dim(l, 99));
            CHECK.due("the brightness", 990, x.brightness(l, 100));
            CHECK.due("dim", 99, x.dim(l, 50));
        }
        CHECK.due("the speed of another", 0, x.boatOf(1, 1));
        CHECK.due("the talk of another", 0, x.boatOf(1, 3));
        CHECK.due("the strength of another", 50, x.lightOf(1, 1));
    }

    private static void talkInPlaceOfAnother() {
        LanternBoats x = new LanternBoats();
        x.light(100, 50, 0, 1, 1, 0);
        x.boat(100, 0);
        CHECK.wrongState("talk before it is served", () -> x.talk(0, 1));
        CHECK.outOfRange("talk of 0 before it is served", () -> x.talk(0, 0));
        x.ticks(1);
        x.talk(0, 99);
        CHECK.due("a shorter one in its place", 99, x.talk(0, 2));
        CHECK.due("no talk is lost by that", 0, x.about(8));
        x.ticks(2);
        CHECK.due("it has ended", 0, x.talk(0, 1));
    }

    private static void settings() {
        int[][] ranges = {{0, 100, 10}, {1, 10, 3}, {1, 300, 60}, {0, 50, 12}};
        LanternBoats x = new LanternBoats();
        for (int what = 0; what < 4; what++) {
            CHECK.due("set to the least", ranges[what][2], x.set(what, ranges[what][0]));
            CHECK.due("setting", ranges[what][0], x.setting(what));
            CHECK.due("set to the most", ranges[what][0], x.set(what, ranges[what][1]));
            CHECK.due("setting", ranges[what][1], x.setting(what));
            CHECK.due("set to the same", ranges[what][1], x.set(what, ranges[what][1]));
        }
        for (int what = 0; what < 4; what++) {
            CHECK.due("each has its own", ranges[what][1], x.setting(what));
        }
        CHECK.outOfRange("set(4, 10)", () -> x.set(4, 10));
        CHECK.outOfRange("set(-1, 10)", () -> x.set(-1, 10));
    }

    // ---- 20.

    private static void undoOfNothing() {
        LanternBoats x = new LanternBoats();
        CHECK.wrongState("undo of nothing", x::undo);
        CHECK.wrongState("undo of nothing again", x::undo);
        x.boat(1, 1);
        CHECK.due("undo of the first action", 0, x.undo());
        CHECK.due("boats", 0, x.about(1));
        CHECK.wrongState("undo of nothing", x::undo);
    }

    private static void undoOfFourteen() {
        LanternBoats x = new LanternBoats();
        for (int v = 1; v <= 14; v++) {
            x.set(3, v);
        }
        for (int v = 13; v >= 1; v--) {
            CHECK.due("undo", v, x.undo());
            CHECK.due("the setting", v, x.setting(3));
        }
        CHECK.due("undo of the first of 14", 0, x.undo());
        CHECK.due("the setting at first", 12, x.setting(3));
        CHECK.wrongState("undo", x::undo);
    }

    private static void undoOfFifteen() {
        LanternBoats x = new LanternBoats();
        for (int v = 1; v <= 15; v++) {
            x.set(3, v);
        }
        for (int v = 14; v >= 1; v--) {
            CHECK.due("undo", v - 1, x.undo());
            CHECK.due("the setting", v, x.setting(3));
        }
        CHECK.wrongState("the oldest of 15 is forgotten", x::undo);
        CHECK.due("the setting behind the first action", 1, x.setting(3));
    }

    private static void undoIsNoAction() {
        LanternBoats x = new LanternBoats();
        x.boat(1, 1);
        x.boat(2, 1);
        x.boat(3, 1);
        CHECK.due("undo", 2, x.undo());
        CHECK.due("undo goes further back", 1, x.undo());
        CHECK.due("boats", 1, x.about(1));
        x.boat(4, 1);
        CHECK.due("undo of what came then", 1, x.undo());
        CHECK.due("undo of the first", 0, x.undo());
        CHECK.due("boats", 0, x.about(1));
    }

    private static void readingIsNoAction() {
        LanternBoats x = new LanternBoats();
        x.light(100, 50, 0, 1, 1, 0);
        x.boat(100, 1);
        Coasts.seen(x);
        x.brightness(0, 0);
        x.bestAt(0, 0);
        x.append('C');
        x.errorPosition();
        x.clearText();
        x.handedIn(0, 0);
        x.ifMargin(0, 1, 0);
        x.bestMargin(1);
        x.dark();
        x.border(0);
        x.room();
        x.runScript(1, 100001);
        x.simulate(1, 1);
        x.save(0);
        CHECK.due("undo", 1, x.undo());
        CHECK.due("boats", 0, x.about(1));
    }

    private static void undoOfWhatMadeNothingDifferent() {
        LanternBoats x = new LanternBoats();
        x.light(100, 50, 0, 1, 1, 0);
        x.boat(100, 0);
        x.ticks(1);
        x.talk(0, 9);
        x.steer(0, 0);
        x.talk(0, 9);
        x.lean(0, 0);
        x.dim(0, 50);
        x.set(0, 10);
        String seen = Coasts.seen(x);
        for (int left = 8; left >= 4; left--) {
            CHECK.due("undo", left, x.undo());
            CHECK.holds("nothing becomes different", seen.equals(Coasts.seen(x)));
        }
        CHECK.due("undo of the talk", 3, x.undo());
        CHECK.due("the talk", 0, x.boatOf(0, 3));
    }

    // ---- 29., 30.

    private static void slots() {
        for (int slot = 0; slot < 2; slot++) {
            int s = slot;
            LanternBoats x = new LanternBoats();
            CHECK.wrongState("restore of an empty slot", () -> x.restore(s));
            CHECK.due("save of a new object", 0, x.save(slot));
            CHECK.wrongState("restore of the other one", () -> x.restore(1 - s));
            x.ticks(60);
            CHECK.due("save in the other one", 60, x.save(1 - slot));
            CHECK.due("restore", 0, x.restore(slot));
            CHECK.due("the time", 0, x.about(2));
            CHECK.due("restore of the other one", 60, x.restore(1 - slot));
            CHECK.due("the time", 60, x.about(2));
            CHECK.noSuchIndex("save(-1)", () -> x.save(-1));
            CHECK.noSuchIndex("save(2)", () -> x.save(2));
            CHECK.noSuchIndex("restore(-1)", () -> x.restore(-1));
            CHECK.noSuchIndex("restore(2)", () -> x.restore(2));
        }
    }

    private static void slotsBehindLoad() {
        LanternBoats x = Coasts.withText("Ct");
        x.ticks(1);
        x.save(0);
        x.save(1);
        CHECK.wrongState("load of a text that is no coast", x::load);
        CHECK.due("it empties no slot", 1, x.restore(0));
        x.clearText();
        Coasts.write(x, "C");
        CHECK.due("load", 0, x.load());
        CHECK.wrongState("restore(0) behind load", () -> x.restore(0));
        CHECK.wrongState("restore(1) behind load", () -> x.restore(1));
        x.ticks(2);
        CHECK.due("save", 2, x.save(1));
        CHECK.wrongState("restore(0) still", () -> x.restore(0));
        CHECK.due("restore(1)", 2, x.restore(1));
    }

    private static void slotsKeepTheirStates() {
        LanternBoats x = new LanternBoats();
        x.light(100, 50, 0, 1, 1, 0);
        x.boat(100, 0);
        x.set(0, 20);
        x.ticks(1);
        x.talk(0, 50);
        x.save(0);
        String seen = Coasts.seen(x);
        x.ticks(5);
        x.dim(0, 99);
        x.set(0, 30);
        x.undo();
        CHECK.due("restore", 1, x.restore(0));
        CHECK.holds("all of the state is back", seen.equals(Coasts.seen(x)));
        x.lean(0, 9);
        x.boat(1, 1);
        CHECK.due("restore again", 1, x.restore(0));
        CHECK.holds("the slot keeps it", seen.equals(Coasts.seen(x)));
        x.ticks(1);
        CHECK.due("save over it", 2, x.save(0));
        CHECK.due("restore of what was saved last", 2, x.restore(0));
    }

    private static void restoreForgetsAll() {
        LanternBoats x = new LanternBoats();
        x.save(1);
        for (int v = 1; v <= 20; v++) {
            x.set(3, v);
        }
        CHECK.wrongState("restore of the empty slot", () -> x.restore(0));
        CHECK.due("it forgets nothing", 13, x.undo());
        x.restore(1);
        CHECK.wrongState("undo behind restore", x::undo);
        CHECK.due("the setting", 12, x.setting(3));
        x.set(3, 40);
        CHECK.due("undo of what came behind it", 0, x.undo());
        CHECK.due("the setting", 12, x.setting(3));
    }
}
