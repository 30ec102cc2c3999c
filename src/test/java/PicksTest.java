/** Promises 9 to 17: picks, what they show, and picks that are unwoven. */
public final class PicksTest {
    private static final int UNKNOWN = TurnedCards.UNKNOWN, BAD = TurnedCards.BAD,
            STATE = TurnedCards.STATE, FULL = TurnedCards.FULL, NONE = TurnedCards.NONE;

    public static void main(String[] args) {
        promise9();
        promise9And10Full();
        promise10();
        promise11();
        promise11Flips();
        promise12();
        promise13And14();
        promise14Flipped();
        promise15();
        promise16();
        promise17();
        Due.end();
    }

    private static TurnedCards band(int n) {
        TurnedCards x = new TurnedCards();
        x.cards(n);
        return x;
    }

    private static int[] turns(TurnedCards x, int pick) {
        int[] all = new int[x.count(0)];
        for (int c = 0; c < all.length; c++) {
            all[c] = x.turn(pick, c);
        }
        return all;
    }

    private static int[] faces(TurnedCards x, int card, boolean back) {
        int[] all = new int[x.count(1)];
        for (int p = 0; p < all.length; p++) {
            all[p] = x.shown(p, card, back);
        }
        return all;
    }

    private static int[] slants(TurnedCards x, int card) {
        int[] all = new int[x.count(1)];
        for (int p = 0; p < all.length; p++) {
            all[p] = x.slant(p, card);
        }
        return all;
    }

    private static void promise9() {
        TurnedCards x = band(4);
        Due.is("9 one", x.pick(5, 8), 1);
        Due.row("9 turns", turns(x, 0), 0, 2, 0, 1);
        Due.is("9 two", x.pick(0, 0), 2);
        Due.row("9 all idle", turns(x, 1), 2, 2, 2, 2);
        int[][] bad = {{16, 0}, {0, 16}, {1, 1}, {7, 4}, {-1, 0}, {0, -1},
            {Integer.MIN_VALUE, 0}, {0, Integer.MIN_VALUE}};
        for (int[] sets : bad) {
            Due.is("9 pick(" + sets[0] + ", " + sets[1] + ")", x.pick(sets[0], sets[1]), BAD);
        }
        Due.is("9 refused changes nothing", x.count(1), 2);
        Due.is("9 refused turns nothing", x.about(0, 2), 101);
        TurnedCards wide = band(16);
        Due.is("9 the last card", wide.pick(0x8000, 0x7fff), 1);
        Due.is("9 forward", wide.turn(0, 15), 0);
        Due.is("9 back", wide.turn(0, 14), 1);
        Due.is("9 no seventeenth", wide.pick(0x10000, 0), BAD);
    }

    private static void promise9And10Full() {
        TurnedCards x = band(1);
        for (int p = 1; p <= 60; p++) {
            Due.is("9 pick " + p, x.pick(1, 0), p);
        }
        Due.is("9 full", x.pick(1, 0), FULL);
        Due.is("9 BAD ahead of FULL", x.pick(2, 0), BAD);
        Due.is("9 BAD ahead of FULL", x.pick(1, 1), BAD);
        Due.is("10 full", x.packs(0, 0, 0, 0), FULL);
        Due.is("10 BAD ahead of FULL", x.packs(0, 0, 0, 3), BAD);
        Due.is("9 refused changes nothing", x.about(0, 2), 160);
        Due.is("9 the last pick", x.shown(59, 0, false), 0);
        x.unweave();
        Due.is("10 room for one", x.packs(1, 2, 2, 2), 60);
        Due.is("9 full again", x.pick(0, 0), FULL);
    }

    private static void promise10() {
        TurnedCards x = band(5);
        for (int c = 0; c < 4; c++) {
            x.pack(c, c);
        }
        Due.is("10 one", x.packs(0, 1, 2, 0), 1);
        Due.row("10 turns", turns(x, 0), 0, 1, 2, 0, 0);
        Due.is("10 two", x.packs(2, 2, 1, 1), 2);
        Due.row("10 turns", turns(x, 1), 2, 2, 1, 1, 2);
        x.pack(0, 3);
        x.packs(2, 2, 2, 0);
        Due.row("10 by packs as they are now", turns(x, 2), 0, 2, 2, 0, 2);
        Due.is("10 bad", x.packs(3, 0, 0, 0), BAD);
        Due.is("10 bad", x.packs(0, -1, 0, 0), BAD);
        Due.is("10 bad", x.packs(0, 0, 3, 0), BAD);
        Due.is("10 bad", x.packs(0, 0, 0, -99), BAD);
        TurnedCards y = band(1);
        Due.is("10 bad, though no card is in it", y.packs(0, 0, 0, 3), BAD);
        Due.is("10 refused changes nothing", y.count(1), 0);
    }

    private static void promise11() {
        TurnedCards x = band(2);
        Due.is("11 nothing woven", x.unweave(), STATE);
        x.pick(1, 2);
        x.pick(0, 0);
        x.pick(0, 0);
        x.pick(2, 1);
        Due.is("11 three left", x.unweave(), 3);
        Due.is("11 idle goes on", x.about(0, 3), 2);
        Due.is("11 twist", x.about(0, 2), 101);
        Due.is("11 twist", x.about(1, 2), 99);
        Due.is("11 places", x.at(0, 0), 3);
        Due.is("11 places", x.at(1, 0), 1);
        Due.is("11 no such pick", x.turn(3, 0), UNKNOWN);
        Due.is("11 idle again", x.pick(0, 0), 4);
        Due.row("11 shows on", faces(x, 0, false), 3, 3, 3, 3);
        x.unweave();
        x.unweave();
        x.unweave();
        Due.is("11 none left", x.unweave(), 0);
        Due.is("11 as at first", x.at(0, 0), 0);
        Due.is("11 as at first", x.about(1, 2), 100);
        Due.is("11 nothing woven again", x.unweave(), STATE);
    }

    private static void promise11Flips() {
        TurnedCards x = band(2);
        x.flip(0);
        x.pick(1, 0);
        x.flip(0);
        x.flip(1);
        x.pick(3, 0);
        x.flip(1);
        x.flip(1);
        x.flip(1);
        Due.is("11 flipped behind it is taken back", x.unweave(), 1);
        Due.is("11 not what was flipped ahead of it", x.about(0, 4), 2);
        Due.is("11 nor here", x.about(1, 4), 1);
        Due.is("11 threaded", x.about(0, 0), 0);
        Due.is("11 threaded", x.about(1, 0), 1);
        // Flipped, turned forward, flipped: 1 0 3 2, then 2 1 0 3, then 1 2 3 0.
        Due.is("11 place 0", x.at(0, 0), 1);
        Due.is("11 place 3", x.at(0, 3), 0);
        Due.is("11 place 0", x.at(1, 0), 1);
        Due.is("11 twist", x.about(0, 2), 99);
        x.unweave();
        Due.is("11 ahead of the first pick", x.about(0, 4), 1);
        Due.is("11 it was never flipped", x.about(1, 4), 0);
        Due.is("11 places", x.at(0, 0), 1);
        Due.is("11 places", x.at(1, 0), 0);
        Due.is("11 twist", x.about(0, 2), 100);
    }

    private static void promise12() {
        TurnedCards x = band(3);
        x.pick(1, 2);
        x.pick(4, 1);
        Due.row("12 pick 0", turns(x, 0), 0, 1, 2);
        Due.row("12 pick 1", turns(x, 1), 1, 2, 0);
        Due.is("12 no pick", x.turn(2, 0), UNKNOWN);
        Due.is("12 no pick", x.turn(-1, 0), UNKNOWN);
        Due.is("12 no card", x.turn(0, 3), UNKNOWN);
        Due.is("12 no card", x.turn(0, -1), UNKNOWN);
    }

    private static void promise13And14() {
        TurnedCards x = band(3);
        x.thread(0, 3, 7);
        x.thread(0, 1, 6);
        for (int p = 0; p < 5; p++) {
            x.pick(1, 2);
        }
        Due.row("14 forward, front", faces(x, 0, false), 3, 2, 1, 0, 3);
        Due.row("14 forward, back", faces(x, 0, true), 1, 0, 3, 2, 1);
        Due.row("14 back, front", faces(x, 1, false), 2, 3, 0, 1, 2);
        Due.row("14 back, back", faces(x, 1, true), 0, 1, 2, 3, 0);
        Due.row("14 idle from the first pick, front", faces(x, 2, false), 0, 0, 0, 0, 0);
        Due.row("14 idle from the first pick, back", faces(x, 2, true), 2, 2, 2, 2, 2);
        Due.is("13 front", x.shows(0, 0, false), 7);
        Due.is("13 back", x.shows(0, 0, true), 6);
        Due.is("13 front of another card", x.shows(1, 1, false), 3);
        for (boolean back : new boolean[] {false, true}) {
            Due.is("13 no pick", x.shows(5, 0, back), UNKNOWN);
            Due.is("13 no pick", x.shows(-1, 0, back), UNKNOWN);
            Due.is("13 no card", x.shows(0, 3, back), UNKNOWN);
            Due.is("13 no card", x.shows(0, -1, back), UNKNOWN);
            Due.is("14 no pick", x.shown(5, 0, back), UNKNOWN);
            Due.is("14 no pick", x.shown(-1, 0, back), UNKNOWN);
            Due.is("14 no card", x.shown(0, 3, back), UNKNOWN);
            Due.is("14 no card", x.shown(0, -1, back), UNKNOWN);
        }
    }

    private static void promise14Flipped() {
        TurnedCards x = band(2);
        x.flip(1);
        x.pick(1, 0);
        x.flip(0);
        x.flip(1);
        x.pick(0, 0);
        x.pick(1, 2);
        Due.row("14 idle behind a flip, front", faces(x, 0, false), 3, 3, 1);
        Due.row("14 idle behind a flip, back", faces(x, 0, true), 1, 1, 3);
        // Idle in pick 0 as flipped (1 0 3 2); flipped again, then back from 0 1 2 3.
        Due.row("14 flipped ahead of pick 0, front", faces(x, 1, false), 1, 1, 2);
        Due.row("14 flipped ahead of pick 0, back", faces(x, 1, true), 3, 3, 0);
    }

    private static void promise15() {
        TurnedCards x = band(3);
        x.way(1, 1);
        x.pick(3, 0);
        x.pick(0, 3);
        x.pick(0, 0);
        x.pick(3, 0);
        x.flip(0);
        x.pick(0, 0);
        x.pick(1, 0);
        x.pick(0, 1);
        Due.row("15 S", slants(x, 0), 0, 1, 1, 0, 0, 1, 0);
        Due.row("15 Z", slants(x, 1), 1, 0, 0, 1, 1, 1, 1);
        Due.row("15 idle", slants(x, 2), 0, 0, 0, 0, 0, 0, 0);
        Due.is("15 no pick", x.slant(7, 0), UNKNOWN);
        Due.is("15 no pick", x.slant(-1, 0), UNKNOWN);
        Due.is("15 no card", x.slant(0, 3), UNKNOWN);
        Due.is("15 no card", x.slant(0, -1), UNKNOWN);
    }

    private static void promise16() {
        TurnedCards x = band(3);
        Due.is("16 nothing woven", x.longest(0), 0);
        x.pick(5, 0);
        x.pick(4, 0);
        x.flip(0);
        x.pick(4, 2);
        x.pick(4, 1);
        x.pick(4, 0);
        Due.is("16 two ahead of one, over a flip", x.longest(0), 2);
        Due.is("16 two on either side", x.longest(1), 2);
        Due.is("16 never idle", x.longest(2), 0);
        x.pick(0, 0);
        Due.is("16 the latest", x.longest(1), 3);
        Due.is("16 the latest is as long", x.longest(0), 2);
        x.unweave();
        Due.is("16 unwoven", x.longest(1), 2);
        TurnedCards y = band(1);
        y.pick(0, 0);
        Due.is("16 idle in pick 0", y.longest(0), 1);
        Due.is("16 no card", x.longest(3), UNKNOWN);
        Due.is("16 no card", x.longest(-1), UNKNOWN);
    }

    private static void promise17() {
        TurnedCards x = band(3);
        x.thread(2, 2, 7);
        x.pick(1, 6);
        Due.is("17 colour 3", x.many(0, 3), 1);
        Due.is("17 colour 2", x.many(0, 2), 1);
        Due.is("17 colour 7", x.many(0, 7), 1);
        Due.is("17 not of the back", x.many(0, 0), 0);
        x.pick(0, 5);
        // Forward and back is place 1 as at first; back twice is thread 3; idle 2.
        Due.is("17 colour 1", x.many(1, 1), 1);
        Due.is("17 colour 3", x.many(1, 3), 1);
        Due.is("17 pick ahead of colour", x.many(2, 8), UNKNOWN);
        Due.is("17 no pick", x.many(-1, 0), UNKNOWN);
        Due.is("17 colour 8", x.many(1, 8), BAD);
        Due.is("17 colour -1", x.many(1, -1), BAD);
        Due.is("17 NONE is no colour", x.many(1, NONE), BAD);
    }
}
