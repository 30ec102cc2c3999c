/**
 * Parts 1 to 3 of the terms and promises 1 to 21: a test for each sentence that names a boundary
 * (empty, full, the first pick, round, the last card). The sentence stands above its test; what
 * is refused stands in RefusalsTest.
 */
public final class EdgesTest {
    private static final int UNKNOWN = TurnedCards.UNKNOWN, STATE = TurnedCards.STATE,
            FULL = TurnedCards.FULL, NONE = TurnedCards.NONE;

    public static void main(String[] args) {
        oneToSixteenCards();
        allAsAtFirst();
        fourThreadsRound();
        coloursZeroToSeven();
        flipRound();
        twistFromZero();
        sixtyPicks();
        firstPick();
        idleShowsOn();
        flipBetweenPicks();
        slantOfIdle();
        lengthOfFloats();
        packsOfCards();
        packWithoutCards();
        unwovenFromFull();
        unwovenWithFlips();
        unwovenToNothing();
        whatIsNotWoven();
        repeatOfNothing();
        repeatFromOneToAll();
        mirrored();
        likeBack();
        rowsOfTheFront();
        worstTwist();
        Due.end();
    }

    private static TurnedCards band(int n) {
        TurnedCards x = new TurnedCards();
        x.cards(n);
        return x;
    }

    private static void picks(TurnedCards x, int times, int forward, int back) {
        for (int p = 0; p < times; p++) {
            x.pick(forward, back);
        }
    }

    private static void unweave(TurnedCards x, int times) {
        for (int p = 0; p < times; p++) {
            x.unweave();
        }
    }

    private static int[] places(TurnedCards x, int card) {
        return new int[] {x.at(card, 0), x.at(card, 1), x.at(card, 2), x.at(card, 3)};
    }

    // ---- 1

    /** 'CARDS 0 .. n - 1 (n 1 .. 16; 4 at first).' */
    private static void oneToSixteenCards() {
        TurnedCards x = new TurnedCards();
        Due.is("four at first", x.count(0), 4);
        int before = 4;
        for (int n = 1; n <= 16; n++) {
            Due.is("cards(" + n + ")", x.cards(n), before);
            Due.is("so many", x.count(0), n);
            Due.is("the last card of " + n, x.about(n - 1, 2), 100);
            Due.is("no card behind it", x.about(n, 2), UNKNOWN);
            Due.is("the set of all " + n, x.pick((1 << n) - 1, 0), 1);
            Due.is("the last card was turned", x.turn(0, n - 1), 0);
            Due.is("so many show it", x.many(0, 3), n);
            before = n;
        }
    }

    /** 'So many CARDS, all as at first, nothing woven, no PICTURE (HEIGHT 1, FLOATS 3).' */
    private static void allAsAtFirst() {
        for (int n : new int[] {1, 4, 16}) {
            Due.holds(n + " cards of a used object are as those of a new one: this",
                    Whole.told(Whole.behind(EdgesTest::used, x -> x.cards(n))).equals(Whole.told(() -> band(n))));
        }
        Due.holds("a new object is as one of four cards: this",
                Whole.told(TurnedCards::new).equals(Whole.told(() -> band(4))));
    }

    private static TurnedCards used() {
        TurnedCards x = band(16);
        for (int c = 0; c < 16; c++) {
            x.thread(c, c % 4, 7 - c % 8);
            x.way(c, 1);
            x.flip(c);
            x.pack(c, 1 + c % 3);
            x.paint(c, c, c % 8);
            x.paint(29, c, 5);
        }
        x.rule(0, 30);
        x.rule(1, 9);
        picks(x, 60, 0x5555, 0xaaaa);
        x.flip(15);
        return x;
    }

    /** 'TURN it FORWARD: what was at PLACE i is at PLACE i + 1, round; BACK: at PLACE i - 1, round.' */
    private static void fourThreadsRound() {
        int[][][] round = {
            {{3, 0, 1, 2}, {2, 3, 0, 1}, {1, 2, 3, 0}, {0, 1, 2, 3}},
            {{1, 2, 3, 0}, {2, 3, 0, 1}, {3, 0, 1, 2}, {0, 1, 2, 3}},
            {{0, 1, 2, 3}, {0, 1, 2, 3}, {0, 1, 2, 3}, {0, 1, 2, 3}}};
        String[] names = {"forward ", "back ", "idle "};
        for (int card = 0; card < 3; card++) {
            TurnedCards x = band(3);
            for (int p = 0; p < 60; p++) {
                x.pick(1, 2);
                Due.row(names[card] + (p + 1), places(x, card), round[card][p % 4]);
            }
        }
    }

    /** 'COLOURS 0 .. 7 (at first THREAD j, which is at PLACE j at first, has COLOUR j).' */
    private static void coloursZeroToSeven() {
        TurnedCards x = band(16);
        for (int c = 0; c < 16; c++) {
            for (int j = 0; j < 4; j++) {
                Due.is("thread " + j + " of card " + c, x.thread(c, j, c % 8), j);
                Due.is("at its place", x.at(c, j), j);
            }
        }
        Due.is("eight unlike colours", x.count(4), 8);
        x.pick(0xffff, 0);
        for (int colour = 0; colour <= 7; colour++) {
            Due.is("colour " + colour, x.shows(0, colour, false), colour);
            Due.is("colour " + colour + " on the back", x.shows(0, colour + 8, true), colour);
            Due.is("shown by two cards", x.many(0, colour), 2);
        }
    }

    /** 'TO FLIP a CARD: what was at PLACE i is at PLACE 1 - i, round (so 0 and 1 are exchanged, 2 and 3).' */
    private static void flipRound() {
        int[][] flipped = {{1, 0, 3, 2}, {0, 3, 2, 1}, {3, 2, 1, 0}, {2, 1, 0, 3}};
        for (int turns = 0; turns < 4; turns++) {
            TurnedCards x = band(1);
            picks(x, turns, 1, 0);
            int[] before = places(x, 0);
            Due.is("Z then", x.flip(0), 1);
            Due.row("flipped behind " + turns, places(x, 0), flipped[turns]);
            Due.is("S again", x.flip(0), 0);
            Due.row("flipped twice behind " + turns, places(x, 0), before);
            Due.is("two times", x.about(0, 4), 2);
        }
    }

    /** 'ITS TWIST is 0 at first: one more for each TURN FORWARD while S, one less while Z; the other way for BACK.' */
    private static void twistFromZero() {
        TurnedCards x = band(4);
        x.way(2, 1);
        x.way(3, 1);
        Due.is("0 at first", x.about(0, 2), 100);
        Due.is("0 at first, Z", x.about(2, 2), 100);
        picks(x, 60, 5, 10);
        Due.is("sixty forward, S", x.about(0, 2), 160);
        Due.is("sixty back, S", x.about(1, 2), 40);
        Due.is("sixty forward, Z", x.about(2, 2), 40);
        Due.is("sixty back, Z", x.about(3, 2), 160);
        for (int c = 0; c < 4; c++) {
            int before = x.about(c, 2);
            x.flip(c);
            Due.is("a flip leaves the twist, card " + c, x.about(c, 2), before);
        }
        TurnedCards y = band(1);
        picks(y, 30, 1, 0);
        y.flip(0);
        picks(y, 30, 1, 0);
        Due.is("thirty each way", y.about(0, 2), 100);
        y.unweave();
        Due.is("one of them taken back", y.about(0, 2), 101);
    }

    // ---- 2

    /** 'PICKS 0, 1, .. (60 at most).' */
    private static void sixtyPicks() {
        TurnedCards x = band(2);
        for (int p = 0; p < 60; p++) {
            Due.is("no pick " + p + " yet", x.turn(p, 0), UNKNOWN);
            Due.is("pick " + p, p % 2 == 0 ? x.pick(2, 1) : x.packs(1, 0, 0, 0), p + 1);
            Due.is("turn in pick " + p, x.turn(p, 0), 1);
        }
        Due.is("one more", x.pick(2, 1), FULL);
        Due.is("no pick 60", x.turn(60, 0), UNKNOWN);
        Due.is("sixty", x.count(1), 60);
        Due.is("the latest shows", x.shown(59, 0, false), 1);
        Due.is("its slant", x.slant(59, 0), 1);
        Due.is("its turn", x.turn(59, 1), 1);
    }

    /** 'If IDLE those that the PICK ahead SHOWED on it; in PICK 0 those at PLACES 0 and 2.' */
    private static void firstPick() {
        TurnedCards x = band(4);
        x.flip(3);
        x.pick(1, 2);
        Due.is("forward, front", x.shown(0, 0, false), 3);
        Due.is("forward, back", x.shown(0, 0, true), 1);
        Due.is("back, front", x.shown(0, 1, false), 2);
        Due.is("back, back", x.shown(0, 1, true), 0);
        Due.is("idle, front", x.shown(0, 2, false), 0);
        Due.is("idle, back", x.shown(0, 2, true), 2);
        Due.is("idle, flipped ahead of it, front", x.shown(0, 3, false), 1);
        Due.is("idle, flipped ahead of it, back", x.shown(0, 3, true), 3);
        TurnedCards again = band(1);
        again.pick(1, 0);
        again.unweave();
        again.pick(0, 0);
        Due.is("pick 0 once more, idle", again.shown(0, 0, false), 0);
        Due.is("pick 0 once more, its slant", again.slant(0, 0), 0);
    }

    /** The same sentence behind PICK 0: idle to the last pick, and not what was unwoven. */
    private static void idleShowsOn() {
        TurnedCards x = band(2);
        x.pick(1, 2);
        picks(x, 59, 0, 0);
        Due.is("behind forward, the last pick", x.shown(59, 0, false), 3);
        Due.is("behind forward, the last pick, back", x.shown(59, 0, true), 1);
        Due.is("behind back, the last pick", x.shown(59, 1, false), 2);
        Due.is("behind back, the last pick, back", x.shown(59, 1, true), 0);
        TurnedCards y = band(1);
        picks(y, 2, 1, 0);
        y.pick(0, 1);
        y.unweave();
        y.pick(0, 0);
        Due.is("that of the pick that is left", y.shown(2, 0, false), 2);
        Due.is("its slant", y.slant(2, 0), 0);
        Due.is("its turn", y.turn(2, 0), 2);
    }

    /** 'A FLIP lies between PICKS; an IDLE one behind it SHOWS the same THREADS on (as THREADS).' */
    private static void flipBetweenPicks() {
        TurnedCards x = band(3);
        x.pick(1, 2);
        for (int flips = 1; flips <= 3; flips++) {
            for (int c = 0; c < 3; c++) {
                x.flip(c);
            }
            x.pick(0, 0);
            Due.is("forward, then flips " + flips, x.shown(flips, 0, false), 3);
            Due.is("the back", x.shown(flips, 0, true), 1);
            Due.is("back, then flips " + flips, x.shown(flips, 1, false), 2);
            Due.is("the back", x.shown(flips, 1, true), 0);
            Due.is("idle in pick 0, then flips " + flips, x.shown(flips, 2, false), 0);
            Due.is("the back", x.shown(flips, 2, true), 2);
        }
        // Flipped three times: 0 3 2 1, 2 1 0 3 ahead of the flips of 1 2 3 0, and 1 0 3 2.
        Due.row("places behind three flips", places(x, 0), 0, 3, 2, 1);
        Due.row("places behind three flips", places(x, 1), 2, 1, 0, 3);
        Due.row("places behind three flips", places(x, 2), 1, 0, 3, 2);
        x.pick(7, 0);
        Due.is("turned on from there", x.shown(4, 0, false), 1);
        Due.is("turned on from there", x.shown(4, 1, false), 3);
        Due.is("turned on from there", x.shown(4, 2, false), 2);
    }

    /** 'THE SLANT: if IDLE that of the PICK ahead (0 in PICK 0).' */
    private static void slantOfIdle() {
        TurnedCards x = band(4);
        x.way(1, 1);
        x.way(3, 1);
        x.pick(0, 0);
        Due.is("idle in pick 0, S", x.slant(0, 0), 0);
        Due.is("idle in pick 0, Z", x.slant(0, 1), 0);
        x.pick(3, 12);
        Due.is("forward, S", x.slant(1, 0), 0);
        Due.is("forward, Z", x.slant(1, 1), 1);
        Due.is("back, S", x.slant(1, 2), 1);
        Due.is("back, Z", x.slant(1, 3), 0);
        for (int c = 0; c < 4; c++) {
            x.flip(c);
        }
        picks(x, 58, 0, 0);
        Due.is("idle to the last, flipped", x.slant(59, 0), 0);
        Due.is("idle to the last, flipped", x.slant(59, 1), 1);
        Due.is("idle to the last, flipped", x.slant(59, 2), 1);
        Due.is("idle to the last, flipped", x.slant(59, 3), 0);
        TurnedCards y = band(1);
        y.pick(0, 1);
        y.pick(0, 0);
        Due.is("idle in pick 1, that of pick 0", y.slant(1, 0), 1);
    }

    /** 'A FLOAT's LENGTH: how many PICKS one behind the other a CARD is IDLE'; 'how long it is IDLE now'. */
    private static void lengthOfFloats() {
        TurnedCards x = band(3);
        Due.is("nothing woven", x.longest(0), 0);
        Due.is("nothing woven, now", x.about(0, 3), 0);
        for (int p = 1; p <= 60; p++) {
            x.pick(p == 60 ? 2 : 4, p == 30 ? 2 : 0);
            Due.is("idle " + p, x.longest(0), p);
            Due.is("idle now " + p, x.about(0, 3), p);
            Due.is("never idle", x.longest(2), p == 60 ? 1 : 0);
        }
        Due.is("twenty-nine on each side of a turn", x.longest(1), 29);
        Due.is("turned in the latest pick", x.about(1, 3), 0);
        x.unweave();
        Due.is("the turn taken back", x.about(1, 3), 29);
        Due.is("fifty-nine", x.longest(0), 59);
        Due.is("turned in the latest pick that is left", x.about(2, 3), 0);
        unweave(x, 59);
        Due.is("none left", x.longest(0), 0);
        Due.is("none left, now", x.about(0, 3), 0);
    }

    /** 'PACKS 0 .. 3: each CARD is in one (0 at first).' */
    private static void packsOfCards() {
        TurnedCards x = band(16);
        x.packs(0, 1, 1, 1);
        for (int c = 0; c < 16; c++) {
            Due.is("in pack 0 at first, card " + c, x.about(c, 1), 0);
            Due.is("and turned with it", x.turn(0, c), 0);
            Due.is("what it was", x.pack(c, c % 4), 0);
            Due.is("what it is", x.about(c, 1), c % 4);
        }
        x.packs(0, 1, 2, 1);
        x.packs(1, 2, 0, 2);
        int[] second = {0, 1, 2, 1};
        int[] third = {1, 2, 0, 2};
        for (int c = 0; c < 16; c++) {
            Due.is("pick 1, card " + c, x.turn(1, c), second[c % 4]);
            Due.is("pick 2, card " + c, x.turn(2, c), third[c % 4]);
        }
        Due.is("into the pack where it is", x.pack(15, 3), 3);
        Due.is("there it is", x.about(15, 1), 3);
    }

    /** A PACK may be without CARDS: what it is told turns nothing. */
    private static void packWithoutCards() {
        TurnedCards x = band(2);
        x.packs(2, 0, 1, 0);
        Due.is("idle", x.turn(0, 0), 2);
        Due.is("idle", x.turn(0, 1), 2);
        x.pack(0, 3);
        x.pack(1, 3);
        x.packs(0, 0, 0, 1);
        Due.is("pack 0 was left", x.turn(1, 0), 1);
        Due.is("pack 0 was left", x.turn(1, 1), 1);
    }

    /** 'UNWOVEN: the latest PICK is taken back; all is as it was ahead of that PICK.' From 60 down. */
    private static void unwovenFromFull() {
        for (int l = 0; l < 60; l += 7) {
            int left = l;
            Due.holds(left + " picks are left, and nothing of those behind: this",
                    Whole.told(() -> unwoven(60 - left)).equals(Whole.told(() -> alternating(left))));
        }
        TurnedCards full = alternating(60);
        Due.is("fifty-nine are left", full.unweave(), 59);
        Due.is("no pick 59", full.turn(59, 0), UNKNOWN);
        Due.is("there is room for one", full.pick(0, 0), 60);
        Due.is("and not for two", full.pick(0, 0), FULL);
    }

    private static TurnedCards unwoven(int times) {
        TurnedCards x = alternating(60);
        unweave(x, times);
        return x;
    }

    private static TurnedCards alternating(int picks) {
        TurnedCards x = band(3);
        x.rule(0, 30);
        for (int p = 0; p < picks; p++) {
            x.pick(p % 3 == 0 ? 1 : 3, p % 4 == 0 ? 4 : 0);
            if (p % 5 == 4) {
                x.flip(p % 3);
            }
        }
        return x;
    }

    /** 'With all that was FLIPPED behind it'; what was flipped ahead of it stays. */
    private static void unwovenWithFlips() {
        for (int behind = 0; behind <= 3; behind++) {
            TurnedCards x = band(2);
            x.flip(0);
            x.pick(3, 0);
            x.flip(1);
            x.pick(0, 2);
            for (int f = 0; f < behind; f++) {
                x.flip(0);
                x.flip(1);
            }
            x.unweave();
            Due.is("flips of card 0, " + behind + " behind", x.about(0, 4), 1);
            Due.is("flips of card 1, " + behind + " behind", x.about(1, 4), 1);
            Due.is("threaded", x.about(0, 0), 1);
            Due.is("threaded", x.about(1, 0), 1);
            Due.row("places", places(x, 0), 2, 1, 0, 3);
            Due.row("places", places(x, 1), 0, 3, 2, 1);
            x.unweave();
            Due.is("ahead of pick 0 it was flipped", x.about(0, 4), 1);
            Due.row("places", places(x, 0), 1, 0, 3, 2);
            Due.is("the other was not", x.about(1, 4), 0);
            Due.row("places", places(x, 1), 0, 1, 2, 3);
        }
    }

    /** 'How many PICKS are left. STATE: there is none.' */
    private static void unwovenToNothing() {
        TurnedCards x = alternating(60);
        for (int left = 59; left >= 0; left--) {
            Due.is("left", x.unweave(), left);
            Due.is("so many", x.count(1), left);
        }
        Due.is("there is none", x.unweave(), STATE);
        Due.is("still none", x.count(1), 0);
        for (int p = 1; p <= 60; p++) {
            Due.is("woven anew", x.pick(7, 0), p);
        }
        Due.is("twist", x.about(2, 2), 160);
    }

    /** Packs, picture and rules are no part of a PICK: none of them is taken back with it. */
    private static void whatIsNotWoven() {
        TurnedCards x = band(2);
        x.pick(3, 0);
        x.pack(1, 3);
        x.paint(0, 1, 6);
        x.rule(0, 30);
        x.rule(1, 9);
        x.unweave();
        Due.is("pack", x.about(1, 1), 3);
        Due.is("picture", x.paint(0, 1, NONE), 6);
        Due.is("HEIGHT", x.rule(0, 1), 30);
        Due.is("FLOATS", x.rule(1, 3), 9);
    }

    // ---- 3

    /** '0: nothing is woven', and what else is asked of a band without picks. */
    private static void repeatOfNothing() {
        for (int n : new int[] {1, 4, 16}) {
            TurnedCards x = band(n);
            Due.is("repeat", x.repeat(), 0);
            Due.is("rows", x.rows(), 0);
            Due.is("mirrored", x.is(0), 1);
            Due.is("like back", x.is(1), 1);
            Due.is("worst", x.worst(false), 0);
            Due.is("worst card", x.worst(true), 0);
            Due.is("evens", x.evens(0), 0);
            Due.is("unlike", x.unlike(), 0);
            x.pick(1, 0);
            x.unweave();
            Due.is("repeat, unwoven", x.repeat(), 0);
            Due.is("rows, unwoven", x.rows(), 0);
        }
    }

    /** 'The least p (1 .. PICKS) so that each PICK SHOWS the COLOURS of the one p PICKS ahead, where there is one.' */
    private static void repeatFromOneToAll() {
        TurnedCards idle = band(16);
        picks(idle, 1, 0, 0);
        Due.is("one pick", idle.repeat(), 1);
        picks(idle, 59, 0, 0);
        Due.is("sixty alike", idle.repeat(), 1);
        TurnedCards last = band(16);
        picks(last, 59, 0, 0);
        last.pick(0x8000, 0);
        Due.is("the last card in the last pick", last.repeat(), 60);
        TurnedCards first = band(1);
        first.pick(0, 1);
        picks(first, 58, 1, 0);
        // 2, then 0 3 2 1 ..: pick 59 is the first that is as pick 0 and has none behind it.
        Due.is("no pick is as those ahead", first.repeat(), 59);
        first.pick(1, 0);
        Due.is("the last pick is as the first, of sixty", first.repeat(), 59);
        TurnedCards onlyEnds = band(1);
        for (int t = 1; t < 4; t++) {
            onlyEnds.thread(0, t, 5);
        }
        // Thread 0 alone has its colour: in pick 0, and again four turns on.
        onlyEnds.pick(0, 0);
        picks(onlyEnds, 4, 1, 0);
        Due.is("the last is as the first", onlyEnds.repeat(), 4);
        TurnedCards wide = counting();
        Due.is("sixty unlike rows", wide.repeat(), 60);
    }

    /** Sixty picks no two of which show the same: three cards count on by fours. */
    private static TurnedCards counting() {
        TurnedCards x = band(3);
        for (int p = 0; p < 60; p++) {
            x.pick(p % 16 == 0 ? 7 : p % 4 == 0 ? 3 : 1, 0);
        }
        return x;
    }

    /** 'MIRRORED: if of each PICK COLOURS on THE FRONT are as well read from the last CARD.' */
    private static void mirrored() {
        TurnedCards one = band(1);
        picks(one, 60, 1, 0);
        Due.is("one card", one.is(0), 1);
        for (int unlike = 0; unlike < 16; unlike++) {
            TurnedCards x = band(16);
            x.pick(0xffff, 0);
            Due.is("all alike", x.is(0), 1);
            x.pick(0xffff & ~(1 << unlike), 0);
            Due.is("card " + unlike + " unlike", x.is(0), 0);
            x.pick(0xffff, 0);
            Due.is("in a pick ahead of the latest", x.is(0), 0);
            unweave(x, 2);
            Due.is("unwoven", x.is(0), 1);
        }
        for (int unlike = 0; unlike < 15; unlike++) {
            TurnedCards x = band(15);
            x.pick(0x7fff, 0);
            x.pick(0x7fff & ~(1 << unlike), 0);
            Due.is("of fifteen, card " + unlike + " unlike", x.is(0), unlike == 7 ? 1 : 0);
        }
        TurnedCards back = band(2);
        back.thread(0, 1, 7);
        back.pick(3, 0);
        Due.is("unlike on the back alone", back.is(0), 1);
    }

    /** 'LIKE BACK: if both faces SHOW like COLOURS everywhere.' */
    private static void likeBack() {
        for (int unlike = 0; unlike < 16; unlike++) {
            TurnedCards x = band(16);
            for (int c = 0; c < 16; c++) {
                x.thread(c, 2, c == unlike ? 7 : 0);
                x.thread(c, 3, 1);
            }
            x.pick(0xffff, 0);
            Due.is("first pick, card " + unlike, x.is(1), 1);
            x.pick(0xffff, 0);
            Due.is("second pick, card " + unlike, x.is(1), 0);
            picks(x, 58, 0xffff, 0);
            Due.is("not everywhere, card " + unlike, x.is(1), 0);
            unweave(x, 59);
            Due.is("unwoven", x.is(1), 1);
        }
        TurnedCards idle = band(1);
        idle.pick(0, 0);
        Due.is("idle in pick 0, threads 0 and 2", idle.is(1), 0);
        TurnedCards alike = band(1);
        alike.thread(0, 2, 0);
        alike.pick(0, 0);
        Due.is("idle in pick 0, threads 0 and 2 alike", alike.is(1), 1);
    }

    /** 'How many unlike rows of COLOURS THE FRONT has.' */
    private static void rowsOfTheFront() {
        TurnedCards x = band(1);
        x.pick(0, 0);
        Due.is("one pick", x.rows(), 1);
        picks(x, 59, 0, 0);
        Due.is("sixty alike", x.rows(), 1);
        Due.is("sixty unlike", counting().rows(), 60);
        TurnedCards y = band(16);
        picks(y, 59, 0, 0);
        y.pick(0x8000, 0);
        Due.is("the last card in the last pick", y.rows(), 2);
    }

    /** 'The greatest size of a TWIST (card = false), the first CARD with it.' */
    private static void worstTwist() {
        for (int c = 0; c < 16; c++) {
            TurnedCards x = band(16);
            picks(x, 1, 0xffff, 0);
            Due.is("all alike", x.worst(true), 0);
            picks(x, 59, 1 << c, 0);
            Due.is("sixty forward", x.worst(false), 60);
            Due.is("its card", x.worst(true), c);
            TurnedCards y = band(16);
            picks(y, 60, 0x8000 & ~(1 << c), 1 << c);
            Due.is("sixty back", y.worst(false), 60);
            Due.is("the first of two", y.worst(true), c);
        }
    }
}
