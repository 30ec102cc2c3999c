/** Promises 18 to 23: the band as a whole, and how it is evened out. */
public final class BandTest {
    private static final int UNKNOWN = TurnedCards.UNKNOWN, BAD = TurnedCards.BAD, NONE = TurnedCards.NONE;

    public static void main(String[] args) {
        promise18();
        promise18Cards();
        promise19Mirrored();
        promise19LikeBack();
        promise20();
        promise21();
        promise22();
        promise22Edges();
        promise23();
        Due.end();
    }

    private static TurnedCards band(int n) {
        TurnedCards x = new TurnedCards();
        x.cards(n);
        return x;
    }

    private static void picks(TurnedCards x, int times, int forward, int back) {
        for (int p = 0; p < times; p++) {
            x.pick(forward, back);
        }
    }

    private static void promise18() {
        TurnedCards x = band(1);
        Due.is("18 nothing woven", x.repeat(), 0);
        int[] want = {1, 2, 3, 4, 4, 4, 4, 4, 4};
        for (int p = 0; p < want.length; p++) {
            x.pick(1, 0);
            Due.is("18 forward " + (p + 1), x.repeat(), want[p]);
        }
        x.pick(0, 1);
        // 3 2 1 0 3 2 1 0 3, then 1: no tail is as the beginning.
        Due.is("18 turned", x.repeat(), 10);
        x.unweave();
        Due.is("18 unwoven", x.repeat(), 4);
    }

    private static void promise18Cards() {
        TurnedCards x = band(2);
        for (int t = 0; t < 4; t++) {
            x.thread(0, t, t % 2);
            x.thread(1, t, 5);
        }
        picks(x, 7, 3, 0);
        Due.is("18 by colours, not threads", x.repeat(), 2);
        TurnedCards y = band(2);
        for (int t = 0; t < 4; t++) {
            y.thread(0, t, 5);
        }
        picks(y, 7, 3, 0);
        Due.is("18 by the last card too", y.repeat(), 4);
        TurnedCards z = band(1);
        picks(z, 3, 0, 0);
        Due.is("18 idle", z.repeat(), 1);
        z.pick(1, 0);
        Due.is("18 idle, then otherwise", z.repeat(), 4);
    }

    private static void promise19Mirrored() {
        TurnedCards x = band(3);
        Due.is("19 nothing woven", x.is(0), 1);
        x.pick(5, 2);
        Due.is("19 outer cards alike", x.is(0), 1);
        x.pick(1, 4);
        // 2 of forward, place 1 of the card that went back again.
        Due.is("19 outer cards unlike", x.is(0), 0);
        x.pick(4, 1);
        Due.is("19 one pick is enough", x.is(0), 0);
        TurnedCards even = band(4);
        even.thread(3, 3, 6);
        even.thread(0, 3, 6);
        even.pick(15, 0);
        Due.is("19 by colours", even.is(0), 1);
        TurnedCards inner = band(4);
        inner.pick(13, 2);
        Due.is("19 inner cards unlike", inner.is(0), 0);
        Due.is("19 what 2", x.is(2), BAD);
        Due.is("19 what -1", x.is(-1), BAD);
    }

    private static void promise19LikeBack() {
        TurnedCards x = band(2);
        Due.is("19 nothing woven", x.is(1), 1);
        for (int c = 0; c < 2; c++) {
            x.thread(c, 2, 0);
            x.thread(c, 3, 1);
        }
        x.pick(1, 2);
        x.pick(1, 0);
        Due.is("19 opposite threads alike", x.is(1), 1);
        TurnedCards y = band(2);
        y.thread(0, 2, 0);
        y.thread(0, 3, 1);
        y.thread(1, 3, 1);
        y.pick(3, 0);
        Due.is("19 as far as it is woven", y.is(1), 1);
        y.pick(3, 0);
        Due.is("19 not of the second card", y.is(1), 0);
        y.unweave();
        Due.is("19 unwoven", y.is(1), 1);
        TurnedCards first = band(2);
        first.thread(1, 2, 0);
        first.thread(1, 3, 1);
        first.pick(3, 0);
        Due.is("19 not of the first card", first.is(1), 0);
    }

    private static void promise20() {
        TurnedCards x = band(2);
        Due.is("20 nothing woven", x.rows(), 0);
        picks(x, 3, 3, 0);
        Due.is("20 three", x.rows(), 3);
        picks(x, 4, 3, 0);
        Due.is("20 four of seven", x.rows(), 4);
        x.pick(2, 0);
        Due.is("20 by the second card alone", x.rows(), 5);
        TurnedCards y = band(1);
        for (int t = 0; t < 4; t++) {
            y.thread(0, t, t / 2);
        }
        picks(y, 8, 1, 0);
        Due.is("20 by colours", y.rows(), 2);
    }

    private static void promise21() {
        TurnedCards x = band(3);
        Due.is("21 nothing woven", x.worst(false), 0);
        Due.is("21 nothing woven", x.worst(true), 0);
        x.pick(2, 4);
        Due.is("21 of like sizes", x.worst(false), 1);
        Due.is("21 the first card", x.worst(true), 1);
        x.pick(0, 4);
        Due.is("21 below 0", x.worst(false), 2);
        Due.is("21 its card", x.worst(true), 2);
        x.pick(0, 1);
        x.pick(0, 1);
        Due.is("21 the first with it", x.worst(true), 0);
    }

    private static void promise22() {
        TurnedCards x = band(3);
        x.way(1, 1);
        x.pack(2, 3);
        picks(x, 3, 3, 4);
        Due.is("22 back three", x.going(0, 0), -3);
        Due.is("22 back two", x.going(0, 1), -2);
        Due.is("22 none is wanted", x.going(0, 3), 0);
        Due.is("22 forward three", x.going(3, 0), 3);
        Due.is("22 forward one", x.going(3, 2), 1);
        Due.is("22 no cards in it", x.going(1, 0), 0);
        x.pick(1, 0);
        // 4 and -3 (Z): four back leaves 0 and 1, three back 1 and 0.
        Due.is("22 not both to 0", x.going(0, 0), NONE);
        Due.is("22 both within 1", x.going(0, 1), -3);
        x.flip(2);
        Due.is("22 flipped", x.going(3, 0), -3);
        Due.is("22 pack ahead of limit", x.going(4, 61), UNKNOWN);
        Due.is("22 no pack", x.going(-1, 0), UNKNOWN);
        Due.is("22 limit 61", x.going(0, 61), BAD);
        Due.is("22 limit -1", x.going(0, -1), BAD);
        Due.is("22 limit, no cards in it", x.going(1, -1), BAD);
        Due.is("22 turns nothing", x.about(0, 2), 104);
    }

    private static void promise22Edges() {
        TurnedCards x = band(2);
        x.pack(1, 1);
        picks(x, 60, 1, 2);
        Due.is("22 sixty back", x.going(0, 0), -60);
        Due.is("22 sixty forward", x.going(1, 0), 60);
        Due.is("22 limit 60", x.going(0, 60), 0);
        Due.is("22 limit 59", x.going(0, 59), -1);
        Due.is("23 sixty", x.evens(0), 60);
        x.pack(1, 0);
        Due.is("22 two ways apart", x.going(0, 59), NONE);
        Due.is("22 two ways apart", x.going(0, 60), 0);
        Due.is("23 two ways apart", x.evens(59), NONE);
    }

    private static void promise23() {
        TurnedCards x = band(4);
        Due.is("23 nothing woven", x.evens(0), 0);
        x.pack(1, 1);
        x.pack(2, 2);
        x.pack(3, 3);
        x.packs(0, 1, 2, 1);
        x.packs(0, 2, 2, 1);
        x.packs(2, 2, 2, 1);
        x.packs(2, 2, 2, 1);
        Due.is("23 the greatest is forward", x.evens(0), 4);
        Due.is("23 within 1", x.evens(1), 3);
        Due.is("23 within 4", x.evens(4), 0);
        x.pack(0, 3);
        Due.is("23 the last pack has none", x.evens(1), NONE);
        Due.is("23 within 3", x.evens(3), 1);
        Due.is("23 limit 61", x.evens(61), BAD);
        Due.is("23 limit -1", x.evens(-1), BAD);
        Due.is("23 limit 60", x.evens(60), 0);
        Due.is("23 weaves nothing", x.count(1), 4);
    }
}
