/** Promise 1 and promises 6 to 11: a new object, and what there is. */
public final class ReadTest {
    private static final Check CHECK = new Check("ReadTest");
    private static final int[] WILD = {-1, Integer.MIN_VALUE, Integer.MAX_VALUE};

    public static void main(String[] args) {
        newObject();
        about();
        lightOf();
        boatOf();
        brightness();
        blinking();
        toOneSide();
        bestAt();
        setting();
        CHECK.end();
    }

    private static void newObject() {
        LanternBoats x = new LanternBoats();
        for (int what = 0; what < 10; what++) {
            CHECK.due("about(" + what + ") of a new object", 0, x.about(what));
        }
        CHECK.noSuchIndex("lightOf(0, 0)", () -> x.lightOf(0, 0));
        CHECK.noSuchIndex("boatOf(0, 0)", () -> x.boatOf(0, 0));
        CHECK.due("clearText()", 0, x.clearText());
        CHECK.wrongState("undo()", x::undo);
        CHECK.wrongState("restore(0)", () -> x.restore(0));
        CHECK.wrongState("restore(1)", () -> x.restore(1));
    }

    private static void about() {
        LanternBoats x = Coasts.twoLights(1, 0);
        x.boat(100, 0);
        CHECK.due("lighthouses", 2, x.about(0));
        CHECK.due("boats", 2, x.about(1));
        CHECK.due("served at first", 0, x.about(3));
        x.ticks(1);
        CHECK.due("the time", 1, x.about(2));
        CHECK.due("served", 2, x.about(3));
        CHECK.due("served without being handed on", 2, x.about(9));
        x.talk(0, 1);
        x.talk(1, 40);
        CHECK.due("that talk", 2, x.about(4));
        x.ticks(1);
        CHECK.due("that talk still", 1, x.about(4));
        x.ticks(8);
        CHECK.due("the time", 10, x.about(2));
        CHECK.due("handed on", 0, x.about(5));
        CHECK.due("refused in the ticks 9 and 10", 2, x.about(7));
        // Boat 1 leaves at speed 6 what serves it: behind place 173 (5000 / 83 is 60) it sees too little.
        x.steer(1, 6);
        x.ticks(12);
        CHECK.due("the place", 172, x.boatOf(1, 0));
        CHECK.due("talks lost", 0, x.about(8));
        x.ticks(1);
        CHECK.due("talks lost", 1, x.about(8));
        CHECK.due("served without being handed on", 2, x.about(9));
        for (int what : WILD) {
            CHECK.outOfRange("about(" + what + ")", () -> x.about(what));
        }
        CHECK.outOfRange("about(10)", () -> x.about(10));
    }

    private static void lightOf() {
        LanternBoats x = new LanternBoats();
        x.light(199, 99, 1, 20, 6, 2);
        x.light(3, 10, 2, 1, 1, 1);
        int[] first = {199, 99, 1, 20, 6, 2, 0, 0, 0};
        int[] second = {3, 10, 2, 1, 1, 1, 0, 0, 0};
        for (int what = 0; what < 9; what++) {
            CHECK.due("lightOf(0, " + what + ")", first[what], x.lightOf(0, what));
            CHECK.due("lightOf(1, " + what + ")", second[what], x.lightOf(1, what));
        }
        x.lean(1, -30);
        CHECK.due("the leaning", -30, x.lightOf(1, 6));
        x.boat(1, 0);
        x.boat(199, 0);
        x.boat(2, 0);
        x.boat(198, 0);
        x.ticks(1);
        CHECK.due("the boats that it serves", 2 + 8, x.lightOf(0, 7));
        CHECK.due("the boats of one that reserves all", 0, x.lightOf(1, 7));
        LanternBoats y = Coasts.twoLights(6, 0);
        y.ticks(9);
        CHECK.due("handed on to 0", 0, y.lightOf(0, 8));
        CHECK.due("handed on to 1", 1, y.lightOf(1, 8));
        CHECK.due("the boats of 0", 0, y.lightOf(0, 7));
        CHECK.due("the boats of 1", 1, y.lightOf(1, 7));
        for (int l : new int[] {-1, 2, 5, 6, Integer.MIN_VALUE, Integer.MAX_VALUE}) {
            CHECK.noSuchIndex("lightOf(" + l + ", 0)", () -> x.lightOf(l, 0));
            CHECK.noSuchIndex("lightOf(" + l + ", 9)", () -> x.lightOf(l, 9));
        }
        for (int what : new int[] {-1, 9, Integer.MIN_VALUE, Integer.MAX_VALUE}) {
            CHECK.outOfRange("lightOf(0, " + what + ")", () -> x.lightOf(0, what));
        }
    }

    private static void boatOf() {
        LanternBoats x = Coasts.twoLights(6, 0);
        int[] atFirst = {40, 2, -1, 0, -1, 0, -1, 0, 0};
        int[] behindSeven = {54, 2, 0, 2, 1, 1, -1, 0, 0};
        int[] behindEight = {56, 2, 0, 1, 1, 2, -1, 0, 0};
        int[] behindNine = {58, 2, 1, 0, -1, 0, 0, 1, 0};
        boat(x, atFirst);
        x.ticks(6);
        x.talk(0, 3);
        x.ticks(1);
        boat(x, behindSeven);
        x.ticks(1);
        boat(x, behindEight);
        x.ticks(1);
        boat(x, behindNine);
        x.steer(0, -6);
        x.ticks(4);
        boat(x, new int[] {34, -6, 0, 0, -1, 0, 1, 2, 1});
        for (int b : new int[] {-1, 1, 7, 8, Integer.MIN_VALUE, Integer.MAX_VALUE}) {
            CHECK.noSuchIndex("boatOf(" + b + ", 0)", () -> x.boatOf(b, 0));
            CHECK.noSuchIndex("boatOf(" + b + ", -1)", () -> x.boatOf(b, -1));
        }
        for (int what : new int[] {-1, 9, Integer.MIN_VALUE, Integer.MAX_VALUE}) {
            CHECK.outOfRange("boatOf(0, " + what + ")", () -> x.boatOf(0, what));
        }
    }

    private static void boat(LanternBoats x, int[] due) {
        for (int what = 0; what < due.length; what++) {
            CHECK.due("boatOf(0, " + what + ") at the time " + x.about(2), due[what], x.boatOf(0, what));
        }
    }

    private static void brightness() {
        LanternBoats x = new LanternBoats();
        x.light(50, 50, 0, 7, 1, 0);
        x.light(0, 99, 0, 1, 1, 0);
        CHECK.due("at its place", 500, x.brightness(0, 50));
        CHECK.due("1 behind", 454, x.brightness(0, 51));
        CHECK.due("1 ahead", 454, x.brightness(0, 49));
        CHECK.due("40 ahead", 100, x.brightness(0, 10));
        CHECK.due("73 behind", 60, x.brightness(0, 123));
        CHECK.due("74 behind", 59, x.brightness(0, 124));
        CHECK.due("at the end", 31, x.brightness(0, 199));
        CHECK.due("199 away", 47, x.brightness(1, 199));
        x.lean(0, 30);
        CHECK.due("the leaning is not brightness", 500, x.brightness(0, 50));
        for (int bad : new int[] {-1, 2, 6, Integer.MIN_VALUE, Integer.MAX_VALUE}) {
            CHECK.noSuchIndex("brightness(" + bad + ", 0)", () -> x.brightness(bad, 0));
        }
        for (int bad : new int[] {-1, 200, Integer.MIN_VALUE, Integer.MAX_VALUE}) {
            CHECK.noSuchIndex("brightness(0, " + bad + ")", () -> x.brightness(0, bad));
            CHECK.noSuchIndex("brightness(9, " + bad + ")", () -> x.brightness(9, bad));
        }
    }

    private static void blinking() {
        LanternBoats x = new LanternBoats();
        x.light(50, 11, 1, 3, 1, 0);
        x.light(50, 11, 1, 1, 1, 0);
        for (int time = 0; time < 13; time++) {
            CHECK.due("n 3, time " + time, time % 6 < 3 ? 33 : 16, x.brightness(0, 73));
            CHECK.due("n 1, time " + time, time % 2 < 1 ? 33 : 16, x.brightness(1, 27));
            x.ticks(1);
        }
    }

    private static void toOneSide() {
        LanternBoats x = new LanternBoats();
        x.light(50, 50, 2, 1, 1, 0);
        x.light(50, 50, 2, 20, 1, 0);
        x.light(50, 50, 2, 3, 1, 0);
        x.light(50, 50, 2, 4, 1, 0);
        int[] places = {0, 49, 50, 51, 199};
        int[] odd = {0, 0, 500, 454, 31};
        int[] even = {83, 454, 500, 0, 0};
        for (int time = 0; time < 3; time++) {
            for (int i = 0; i < places.length; i++) {
                CHECK.due("n 1 at " + places[i], odd[i], x.brightness(0, places[i]));
                CHECK.due("n 20 at " + places[i], even[i], x.brightness(1, places[i]));
                CHECK.due("n 3 at " + places[i], odd[i], x.brightness(2, places[i]));
                CHECK.due("n 4 at " + places[i], even[i], x.brightness(3, places[i]));
            }
            x.ticks(1);
        }
    }

    private static void bestAt() {
        LanternBoats x = new LanternBoats();
        CHECK.due("bestAt(0, 0) without lighthouses", -1, x.bestAt(0, 0));
        CHECK.due("bestAt(199, 1) without lighthouses", 0, x.bestAt(199, 1));
        x.light(20, 10, 2, 1, 1, 0);
        x.lean(0, -30);
        CHECK.due("the only one, of a worth below 0", 0, x.bestAt(0, 0));
        CHECK.due("that worth", -30, x.bestAt(0, 1));
        x.light(0, 50, 0, 1, 1, 0);
        x.light(100, 50, 0, 1, 1, 0);
        CHECK.due("of two with the same worth the lower", 1, x.bestAt(50, 0));
        CHECK.due("that worth", 83, x.bestAt(50, 1));
        CHECK.due("the brighter", 2, x.bestAt(52, 0));
        CHECK.due("that worth", 86, x.bestAt(52, 1));
        x.lean(1, 6);
        CHECK.due("the leaning counts", 1, x.bestAt(52, 0));
        CHECK.due("with it the worth", 86, x.bestAt(52, 1));
        for (int p : new int[] {-1, 200, Integer.MIN_VALUE, Integer.MAX_VALUE}) {
            CHECK.noSuchIndex("bestAt(" + p + ", 0)", () -> x.bestAt(p, 0));
            CHECK.noSuchIndex("bestAt(" + p + ", 2)", () -> x.bestAt(p, 2));
        }
        for (int what : new int[] {-1, 2, Integer.MIN_VALUE, Integer.MAX_VALUE}) {
            CHECK.outOfRange("bestAt(0, " + what + ")", () -> x.bestAt(0, what));
        }
    }

    private static void setting() {
        LanternBoats x = new LanternBoats();
        int[] first = {10, 3, 60, 12};
        for (int what = 0; what < 4; what++) {
            CHECK.due("setting(" + what + ")", first[what], x.setting(what));
        }
        for (int what : WILD) {
            CHECK.outOfRange("setting(" + what + ")", () -> x.setting(what));
        }
        CHECK.outOfRange("setting(4)", () -> x.setting(4));
    }
}
