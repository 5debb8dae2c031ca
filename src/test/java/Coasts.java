/** Coasts that several tests begin with, and what they look at. */
final class Coasts {
    private Coasts() {
    }

    static void write(LanternBoats x, String text) {
        for (int i = 0; i < text.length(); i++) {
            x.append(text.charAt(i));
        }
    }

    static LanternBoats withText(String text) {
        LanternBoats x = new LanternBoats();
        write(x, text);
        return x;
    }

    /**
     * Steady lighthouses of strength 50 at the places 0 and 100, and a boat at 40 that goes from one to the other:
     * served by 0 from the first tick on, with the wish for 1 from the tick 7 on (place 54: 78 and 89),
     * handed on in the tick 9 (place 58).
     */
    static LanternBoats twoLights(int boatsOfSecond, int reservedOfSecond) {
        LanternBoats x = new LanternBoats();
        x.light(0, 50, 0, 1, 6, 0);
        x.light(100, 50, 0, 1, boatsOfSecond, reservedOfSecond);
        x.boat(40, 2);
        return x;
    }

    /** All that the face tells of the state, in one text. */
    static String seen(LanternBoats x) {
        StringBuilder all = new StringBuilder();
        for (int what = 0; what < 10; what++) {
            all.append(x.about(what)).append(' ');
        }
        for (int what = 0; what < 4; what++) {
            all.append(x.setting(what)).append(' ');
        }
        for (int l = 0; l < x.about(0); l++) {
            all.append('l');
            for (int what = 0; what < 9; what++) {
                all.append(x.lightOf(l, what)).append(' ');
            }
        }
        for (int b = 0; b < x.about(1); b++) {
            all.append('b');
            for (int what = 0; what < 9; what++) {
                all.append(x.boatOf(b, what)).append(' ');
            }
        }
        return all.toString();
    }
}
