import java.util.Arrays;

/** Promise 19 at its edges: each comparison of a tick just on its one side and just on the other. */
public final class TickEdgeTest {
    private static final Check CHECK = new Check("TickEdgeTest");
    private static final int NONE = -1;

    public static void main(String[] args) {
        spans();
        nothingThere();
        endsOfTheCoast();
        tooDarkForItsOwn();
        tooDarkAtTheEndsOfTheSetting();
        losesItsWish();
        losesItsTalk();
        noWishOfItsOwn();
        margin();
        lowestOfTheGreatest();
        leastTime();
        hasHadItLonger();
        notInTheTickInWhichItIsTaken();
        asksAFullOne();
        lastPlaceGoesToTheLowerBoat();
        notMoreThanSoonAgo();
        leftLastAndNotTheOneBefore();
        losingIsNotLeaving();
        brightEnoughToTakeIt();
        takesAsManyAsItCanLessThoseReserved();
        takenOfSeveralTheLowest();
        talks();
        oneSided();
        blinking();
        CHECK.end();
    }

    /** Steady lighthouses at 100 with these strengths, for six boats each, and one boat there, which stays. */
    private static LanternBoats at100(int... strengths) {
        LanternBoats x = new LanternBoats();
        for (int strength : strengths) {
            x.light(100, strength, 0, 1, 6, 0);
        }
        x.boat(100, 0);
        return x;
    }

    /** The boat is served by the lighthouse 0 (500), behind 1 tick, with lighthouses as bright beside it. */
    private static LanternBoats servedAmong(int lights) {
        int[] strengths = new int[lights];
        Arrays.fill(strengths, 50);
        LanternBoats x = at100(strengths);
        x.ticks(1);
        CHECK.due("the lighthouse that serves it", 0, x.boatOf(0, 2));
        return x;
    }

    // ---- ticks(), 1.

    private static void spans() {
        LanternBoats x = at100(50);
        CHECK.due("ticks(1)", 0, x.ticks(1));
        CHECK.due("the time", 1, x.about(2));
        CHECK.due("ticks(60)", 0, x.ticks(60));
        CHECK.due("the time", 61, x.about(2));
        CHECK.outOfRange("ticks(0)", () -> x.ticks(0));
        CHECK.outOfRange("ticks(61)", () -> x.ticks(61));
        CHECK.due("the time", 61, x.about(2));
    }

    private static void nothingThere() {
        LanternBoats x = new LanternBoats();
        CHECK.due("ticks without anything", 0, x.ticks(60));
        CHECK.due("the time", 60, x.about(2));
        x.boat(0, 6);
        CHECK.due("ticks without lighthouses", 0, x.ticks(1));
        CHECK.due("the place", 6, x.boatOf(0, 0));
        CHECK.due("the lighthouse", NONE, x.boatOf(0, 2));
        LanternBoats y = new LanternBoats();
        y.light(0, 99, 0, 1, 6, 0);
        CHECK.due("ticks without boats", 0, y.ticks(60));
        CHECK.due("served without being handed on", 0, y.about(9));
    }

    private static void endsOfTheCoast() {
        for (int speed = 1; speed <= 6; speed++) {
            LanternBoats x = new LanternBoats();
            x.boat(199 - speed, speed);
            x.boat(200 - speed, speed);
            x.boat(speed, -speed);
            x.boat(speed - 1, -speed);
            x.boat(199, speed);
            x.boat(0, -speed);
            int[] places = {199, 200 - speed, 0, speed - 1, 199, 0};
            int[] speeds = {speed, -speed, -speed, speed, -speed, speed};
            int[] next = {199, 200 - 2 * speed, 0, 2 * speed - 1, 199 - speed, speed};
            int[] nextSpeeds = {-speed, -speed, speed, speed, -speed, speed};
            x.ticks(1);
            seenAt(x, places, speeds);
            x.ticks(1);
            seenAt(x, next, nextSpeeds);
        }
        LanternBoats y = new LanternBoats();
        y.boat(0, 0);
        y.boat(199, 0);
        y.ticks(60);
        seenAt(y, new int[] {0, 199}, new int[] {0, 0});
    }

    private static void seenAt(LanternBoats x, int[] places, int[] speeds) {
        for (int b = 0; b < places.length; b++) {
            CHECK.due("the place of boat " + b, places[b], x.boatOf(b, 0));
            CHECK.due("the speed of boat " + b, speeds[b], x.boatOf(b, 1));
        }
    }

    // ---- 2.: less than setting 2

    private static void tooDarkForItsOwn() {
        LanternBoats x = servedAmong(1);
        for (int v : new int[] {1, 59, 60, 300}) {
            x.set(2, v);
            x.ticks(1);
            CHECK.due("500 with setting 2 as " + v, 0, x.boatOf(0, 2));
        }
        CHECK.due("served without being handed on", 1, x.about(9));
        // 2000 / 33 is 60 at 23 away, 2000 / 34 is 58 at 24 away.
        LanternBoats y = at100(20);
        y.boat(123, 0);
        y.boat(122, 1);
        y.ticks(1);
        CHECK.due("60 is enough to be taken", 0, y.boatOf(1, 2));
        y.ticks(1);
        CHECK.due("60 is enough to be kept", 0, y.boatOf(1, 2));
        CHECK.due("58 is not", NONE, y.boatOf(2, 2));
        y.set(2, 61);
        y.ticks(1);
        CHECK.due("60 is less than 61", NONE, y.boatOf(1, 2));
        y.set(2, 58);
        y.ticks(1);
        CHECK.due("60 is more than 58", 0, y.boatOf(1, 2));
        y.lean(0, -30);
        y.set(2, 60);
        y.ticks(1);
        CHECK.due("60 is enough, with a leaning of -30 too", 0, y.boatOf(1, 2));
        y.lean(0, 30);
        y.set(2, 61);
        y.ticks(1);
        CHECK.due("60 is less than 61, with a leaning of 30 too", NONE, y.boatOf(1, 2));
    }

    private static void tooDarkAtTheEndsOfTheSetting() {
        LanternBoats x = at100(30);
        x.set(2, 300);
        x.ticks(1);
        CHECK.due("300 is not less than 300", 0, x.boatOf(0, 2));
        x.dim(0, 29);
        x.ticks(1);
        CHECK.due("290 is", NONE, x.boatOf(0, 2));
        // Of one that shines to places from its own on: 0 one place ahead of it, 4 at 199 away.
        LanternBoats y = new LanternBoats();
        y.light(0, 10, 0, 1, 1, 0);
        y.light(150, 99, 2, 1, 1, 0);
        y.set(2, 1);
        y.boat(199, 0);
        y.boat(149, 0);
        y.ticks(1);
        CHECK.due("setting 2 as 1 and the brighter", 1, y.boatOf(0, 2));
        CHECK.due("setting 2 as 1 and one that is seen a little", 0, y.boatOf(1, 2));
        LanternBoats z = new LanternBoats();
        z.light(150, 99, 2, 1, 1, 0);
        z.set(2, 1);
        z.boat(149, 0);
        z.lean(0, 30);
        z.ticks(1);
        CHECK.due("0 is less than the least setting, whatever the leaning", NONE, z.boatOf(0, 2));
    }

    private static void losesItsWish() {
        LanternBoats x = servedAmong(2);
        x.lean(1, 30);
        x.ticks(2);
        CHECK.due("its wish", 1, x.boatOf(0, 4));
        CHECK.due("for", 2, x.boatOf(0, 5));
        x.dim(0, 10);
        x.dim(1, 10);
        x.set(2, 101);
        x.ticks(1);
        CHECK.due("served no more", NONE, x.boatOf(0, 2));
        CHECK.due("no wish any more", NONE, x.boatOf(0, 4));
        CHECK.due("for 0 ticks", 0, x.boatOf(0, 5));
        CHECK.due("not handed on", 0, x.about(5));
        CHECK.due("not refused", 0, x.about(7));
    }

    private static void losesItsTalk() {
        for (int n : new int[] {1, 2, 99}) {
            LanternBoats x = servedAmong(1);
            x.talk(0, n);
            x.dim(0, 10);
            x.set(2, 101);
            x.ticks(1);
            CHECK.due("a talk of " + n + " that is lost", 0, x.boatOf(0, 3));
            CHECK.due("talks lost", 1, x.about(8));
            x.ticks(5);
            CHECK.due("lost once", 1, x.about(8));
        }
        LanternBoats y = servedAmong(1);
        y.dim(0, 10);
        y.set(2, 101);
        y.ticks(1);
        CHECK.due("without a talk none is lost", 0, y.about(8));
        LanternBoats z = servedAmong(1);
        z.talk(0, 2);
        z.ticks(2);
        z.set(2, 300);
        z.dim(0, 10);
        z.ticks(1);
        CHECK.due("a talk that ended the tick before is not lost", 0, z.about(8));
        CHECK.wrongState("talk of the boat that is served no more", () -> z.talk(0, 1));
    }

    // ---- 2.: the wish

    private static void noWishOfItsOwn() {
        LanternBoats x = servedAmong(1);
        x.set(0, 0);
        x.set(1, 1);
        x.lean(0, -30);
        CHECK.due("with no other one", 0, x.ticks(5));
        CHECK.due("the wish", NONE, x.boatOf(0, 4));
        CHECK.due("for", 0, x.boatOf(0, 5));
    }

    /** The own one is worth 500, the other one 500 and the leaning: at least the margin more, or a little less. */
    private static void margin() {
        for (int v : new int[] {0, 1, 9, 10, 11, 30}) {
            LanternBoats x = servedAmong(2);
            x.set(0, v);
            x.lean(1, v - 1);
            x.ticks(1);
            CHECK.due("one less than the margin " + v, NONE, x.boatOf(0, 4));
            x.lean(1, v);
            x.ticks(1);
            CHECK.due("the margin " + v, 1, x.boatOf(0, 4));
        }
        LanternBoats y = servedAmong(2);
        y.set(0, 100);
        y.dim(1, 60);
        y.ticks(1);
        CHECK.due("100 more with the margin 100", 1, y.boatOf(0, 4));
        y.lean(1, -1);
        y.ticks(1);
        CHECK.due("99 more", NONE, y.boatOf(0, 4));
        y.lean(0, -1);
        y.ticks(1);
        CHECK.due("100 more by both leanings", 1, y.boatOf(0, 4));
        CHECK.due("for 1 tick, as it had none between", 1, y.boatOf(0, 5));
    }

    private static void lowestOfTheGreatest() {
        LanternBoats x = servedAmong(6);
        x.set(0, 0);
        x.ticks(1);
        CHECK.due("of all the same the lowest other one", 1, x.boatOf(0, 4));
        x.lean(1, -1);
        x.lean(3, 1);
        x.lean(5, 1);
        x.ticks(1);
        CHECK.due("of the two greatest the lower", 3, x.boatOf(0, 4));
        x.lean(5, 2);
        x.ticks(1);
        CHECK.due("the greatest, the last", 5, x.boatOf(0, 4));
        LanternBoats y = at100(50, 50, 50);
        y.lean(1, 1);
        y.ticks(1);
        CHECK.due("served by the one in the middle", 1, y.boatOf(0, 2));
        y.lean(1, 0);
        y.set(0, 0);
        y.ticks(1);
        CHECK.due("the wish is below it", 0, y.boatOf(0, 4));
    }

    private static void leastTime() {
        for (int least = 1; least <= 10; least++) {
            LanternBoats x = servedAmong(2);
            x.set(1, least);
            x.lean(1, 30);
            for (int tick = 1; tick < least; tick++) {
                CHECK.due("handed on behind " + tick + " of " + least, 0, x.ticks(1));
                CHECK.due("the ticks of its wish", tick, x.boatOf(0, 5));
            }
            CHECK.due("handed on behind all " + least, 1, x.ticks(1));
            CHECK.due("it has no wish any more", NONE, x.boatOf(0, 4));
            CHECK.due("for 0 ticks", 0, x.boatOf(0, 5));
        }
    }

    private static void hasHadItLonger() {
        LanternBoats x = servedAmong(2);
        x.set(1, 10);
        x.lean(1, 30);
        CHECK.due("handed on behind 7 of 10", 0, x.ticks(7));
        x.set(1, 3);
        CHECK.due("behind 8, which is more than 3", 1, x.ticks(1));
    }

    /** The lighthouse 1 takes none but those that are handed on, and is brighter. */
    private static void notInTheTickInWhichItIsTaken() {
        LanternBoats x = new LanternBoats();
        x.light(100, 50, 0, 1, 6, 0);
        x.light(100, 99, 0, 1, 1, 1);
        x.boat(100, 0);
        x.set(1, 1);
        CHECK.due("in the tick in which it is taken", 0, x.ticks(1));
        CHECK.due("it is served by", 0, x.boatOf(0, 2));
        CHECK.due("and has no wish", NONE, x.boatOf(0, 4));
        CHECK.due("in the next one", 1, x.ticks(1));
        CHECK.due("it is served by", 1, x.boatOf(0, 2));
    }

    // ---- 2.: asking

    /** For every number of boats that a lighthouse can serve: it has one place left, or none. */
    private static void asksAFullOne() {
        for (int can = 1; can <= 6; can++) {
            LanternBoats x = servedAmong(1);
            x.lean(0, -30);
            x.light(100, 50, 0, 1, can, 0);
            for (int b = 1; b < can; b++) {
                x.boat(100, 0);
            }
            CHECK.due("handed on", 0, x.ticks(2));
            CHECK.due("with one place left", 1, x.ticks(1));
            CHECK.due("refused", 0, x.about(7));
            CHECK.due("the boats", (1 << can) - 1, x.lightOf(1, 7));
            LanternBoats y = servedAmong(1);
            y.lean(0, -30);
            y.light(100, 50, 0, 1, can, 0);
            for (int b = 0; b < can; b++) {
                y.boat(100, 0);
            }
            CHECK.due("with none left", 0, y.ticks(3));
            CHECK.due("refused", 1, y.about(7));
            CHECK.due("the wish stays", 1, y.boatOf(0, 4));
            CHECK.due("for", 3, y.boatOf(0, 5));
            CHECK.due("it stays where it is", 0, y.boatOf(0, 2));
            CHECK.due("refused again each tick", 0, y.ticks(4));
            CHECK.due("refused", 5, y.about(7));
        }
    }

    private static void lastPlaceGoesToTheLowerBoat() {
        LanternBoats x = at100(50);
        x.boat(100, 0);
        x.ticks(1);
        x.light(100, 60, 0, 1, 1, 1);
        CHECK.due("handed on", 1, x.ticks(3));
        CHECK.due("the lower boat has it", 1, x.lightOf(1, 7));
        CHECK.due("the higher one is refused in the same tick", 1, x.about(7));
        CHECK.due("handed on to it", 1, x.lightOf(1, 8));
    }

    // ---- 2.: back and forth

    /** Handed on from 0 to 1 at the time 2, and back when so many ticks have gone by. */
    private static LanternBoats backBehind(int ticks, int setting) {
        LanternBoats x = servedAmong(2);
        x.set(1, 1);
        x.set(3, setting);
        x.lean(1, 30);
        CHECK.due("handed on", 1, x.ticks(1));
        x.lean(1, 0);
        if (ticks > 1) {
            CHECK.due("it stays", 0, x.ticks(ticks - 1));
        }
        x.lean(0, 30);
        CHECK.due("handed on again", 1, x.ticks(1));
        return x;
    }

    private static void notMoreThanSoonAgo() {
        CHECK.due("1 tick ago, with setting 3 as 0", 0, backBehind(1, 0).about(6));
        for (int setting : new int[] {1, 2, 12, 49, 50}) {
            LanternBoats x = backBehind(setting, setting);
            CHECK.due("as many ticks ago as setting 3, " + setting, 1, x.about(6));
            CHECK.due("of the boat", 1, x.boatOf(0, 8));
            LanternBoats y = backBehind(setting + 1, setting);
            CHECK.due("one tick more ago than setting 3, " + setting, 0, y.about(6));
            CHECK.due("of the boat", 0, y.boatOf(0, 8));
            CHECK.due("handed on all the same", 2, y.boatOf(0, 7));
        }
    }

    private static void leftLastAndNotTheOneBefore() {
        LanternBoats x = backBehind(1, 50);
        CHECK.due("it left last", 1, x.boatOf(0, 6));
        x.light(100, 60, 0, 1, 6, 0);
        CHECK.due("to a third one", 1, x.ticks(1));
        CHECK.due("is not back", 1, x.about(6));
        CHECK.due("it left last", 0, x.boatOf(0, 6));
        x.dim(2, 50);
        x.lean(0, 0);
        x.lean(1, 30);
        CHECK.due("to the one before", 1, x.ticks(1));
        CHECK.due("is not back either", 1, x.about(6));
        CHECK.due("it left last", 2, x.boatOf(0, 6));
    }

    /** A boat that saw too little, or was taken, has left nothing by being handed on. */
    private static void losingIsNotLeaving() {
        LanternBoats x = servedAmong(2);
        CHECK.due("it left none", NONE, x.boatOf(0, 6));
        x.dim(0, 10);
        x.set(2, 101);
        x.ticks(1);
        CHECK.due("taken by the other one", 1, x.boatOf(0, 2));
        CHECK.due("it left none by being handed on", NONE, x.boatOf(0, 6));
        CHECK.due("handed on", 0, x.about(5));
        x.set(1, 1);
        x.dim(0, 60);
        CHECK.due("handed on to the one that it lost", 1, x.ticks(1));
        CHECK.due("is not back", 0, x.about(6));
        CHECK.due("it left last", 1, x.boatOf(0, 6));
    }

    // ---- 3.

    private static void brightEnoughToTakeIt() {
        LanternBoats x = at100(10);
        x.set(2, 101);
        x.lean(0, 30);
        x.ticks(1);
        CHECK.due("100 is not at least 101", NONE, x.boatOf(0, 2));
        CHECK.due("served without being handed on", 0, x.about(9));
        x.set(2, 100);
        x.lean(0, -30);
        x.ticks(1);
        CHECK.due("100 is at least 100, whatever the leaning", 0, x.boatOf(0, 2));
        CHECK.due("served without being handed on", 1, x.about(9));
    }

    private static void takesAsManyAsItCanLessThoseReserved() {
        for (int can = 1; can <= 6; can++) {
            for (int reserved = 0; reserved <= can; reserved++) {
                LanternBoats x = new LanternBoats();
                x.light(100, 50, 0, 1, can, reserved);
                for (int b = 0; b < 8; b++) {
                    x.boat(100, 0);
                }
                x.ticks(2);
                String call = "of " + can + " with " + reserved + " reserved: ";
                CHECK.due(call + "the boats that it serves", (1 << can - reserved) - 1, x.lightOf(0, 7));
                CHECK.due(call + "boats served", can - reserved, x.about(3));
                CHECK.due(call + "so often", can - reserved, x.about(9));
                CHECK.due(call + "room", reserved, x.room());
            }
        }
    }

    private static void takenOfSeveralTheLowest() {
        LanternBoats x = at100(50, 50, 50, 50, 50, 50);
        x.ticks(1);
        CHECK.due("of six the lowest", 0, x.boatOf(0, 2));
        LanternBoats y = at100(50, 50, 50, 50, 50, 50);
        y.lean(4, 1);
        y.lean(5, 1);
        y.ticks(1);
        CHECK.due("the greatest worth, of two the lowest", 4, y.boatOf(0, 2));
        LanternBoats z = at100(10, 10);
        z.lean(0, -30);
        z.lean(1, -29);
        z.set(2, 100);
        z.ticks(1);
        CHECK.due("of those with a leaning below 0 the greater worth", 1, z.boatOf(0, 2));
    }

    // ---- 4.

    private static void talks() {
        LanternBoats x = servedAmong(1);
        x.talk(0, 1);
        x.ticks(1);
        CHECK.due("a talk of 1 ends", 0, x.boatOf(0, 3));
        x.talk(0, 99);
        x.ticks(60);
        x.ticks(38);
        CHECK.due("a talk of 99 behind 98 ticks", 1, x.boatOf(0, 3));
        CHECK.due("boats that talk", 1, x.about(4));
        x.ticks(1);
        CHECK.due("behind 99", 0, x.boatOf(0, 3));
        CHECK.due("boats that talk", 0, x.about(4));
        x.ticks(1);
        CHECK.due("behind 100", 0, x.boatOf(0, 3));
        CHECK.due("talks lost", 0, x.about(8));
    }

    // ---- the lighthouses that are not steady

    /** It shines to its own place and those behind it (n odd), or ahead of it (n even), and no further. */
    private static void oneSided() {
        for (int n : new int[] {1, 2, 19, 20}) {
            LanternBoats x = new LanternBoats();
            x.light(100, 50, 2, n, 6, 0);
            for (int p = 99; p <= 101; p++) {
                x.boat(p, 0);
            }
            x.ticks(1);
            CHECK.due("the boats of n " + n, n % 2 == 1 ? 6 : 3, x.lightOf(0, 7));
        }
    }

    /** Setting 2 lies between the two brightnesses: it is served while the whole one is to be seen. */
    private static void blinking() {
        for (int n : new int[] {1, 2, 19, 20}) {
            LanternBoats x = new LanternBoats();
            x.light(100, 11, 1, n, 6, 0);
            x.boat(100, 0);
            x.set(2, 56);
            for (int time = 1; time <= 45; time++) {
                x.ticks(1);
                CHECK.due("n " + n + " at the time " + time, time / n % 2 == 1 ? NONE : 0, x.boatOf(0, 2));
            }
        }
    }
}
