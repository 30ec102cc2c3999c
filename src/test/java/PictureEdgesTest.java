/**
 * Parts 4 and 5 of the terms and promises 22 to 35: a test for each sentence that names a boundary
 * (a limit, a pack without cards, HEIGHT, FLOATS, too few picks, a quarrel's first row). The
 * sentence stands above its test; what is refused stands in RefusalsTest.
 */
public final class PictureEdgesTest {
    private static final int BAD = TurnedCards.BAD, STATE = TurnedCards.STATE,
            FULL = TurnedCards.FULL, NONE = TurnedCards.NONE;
    private static final int FORWARD = 0, BACK = 1, IDLE = 2;

    public static void main(String[] args) {
        limitZeroToSixty();
        goingFromSixtyBackToSixtyForward();
        goingOfPackWithoutCards();
        goingOfCardsApart();
        goingOfFlippedCards();
        evensOfAllPacks();
        pictureOfThirtyRows();
        heightOfOne();
        heightOfTurnings();
        heightOfUnlike();
        heightOfThreading();
        heightOfWrongTurns();
        floatsZeroToNine();
        floatsCountOn();
        floatsLongerThanTheRule();
        turningsBeyondSixty();
        bestOfLikeOnes();
        bestOfBothSizes();
        bestByFloats();
        weaveToSixty();
        weaveWithoutPicture();
        quarrelByRow();
        threadingOfNothing();
        wrongTurnsOfNothing();
        wrongTurnsInOrder();
        wrongTurnsAsThereArePicks();
        wrongTurnsOfFlipped();
        countsFromEmptyToFull();
        Due.end();
    }

    private static TurnedCards band(int n) {
        TurnedCards x = new TurnedCards();
        x.cards(n);
        return x;
    }

    /** One card, HEIGHT as told, the front's colours asked for from row 0 on. */
    private static TurnedCards column(int height, int... colours) {
        TurnedCards x = band(1);
        x.rule(0, height);
        repaint(x, colours);
        return x;
    }

    private static void repaint(TurnedCards x, int... colours) {
        for (int r = 0; r < colours.length; r++) {
            x.paint(r, 0, colours[r]);
        }
    }

    private static void recolour(TurnedCards x, int... colours) {
        for (int t = 0; t < 4; t++) {
            x.thread(0, t, colours[t]);
        }
    }

    private static void picks(TurnedCards x, int times, int forward, int back) {
        for (int p = 0; p < times; p++) {
            x.pick(forward, back);
        }
    }

    private static void dueBest(String what, TurnedCards x, int idles, int behind, int... turns) {
        Due.is(what + ": idles", x.idles(0), idles);
        Due.is(what + ": behind", x.behind(0), behind);
        int[] best = new int[turns.length];
        for (int i = 0; i < turns.length; i++) {
            best[i] = x.turning(0, i);
        }
        Due.row(what + ": turnings", best, turns);
    }

    private static void dueNone(String what, TurnedCards x) {
        Due.is(what + ": idles", x.idles(0), NONE);
        Due.is(what + ": behind", x.behind(0), NONE);
        Due.is(what + ": turning 0", x.turning(0, 0), NONE);
        Due.is(what + ": weave", x.weave(), NONE);
    }

    // ---- 4

    /** 'So that the size of no TWIST is above a LIMIT (0 .. 60).' */
    private static void limitZeroToSixty() {
        TurnedCards x = band(2);
        x.pack(1, 1);
        picks(x, 60, 1, 2);
        for (int limit = 0; limit <= 60; limit++) {
            Due.is("twist 60, limit " + limit, x.going(0, limit), limit - 60);
            Due.is("twist -60, limit " + limit, x.going(1, limit), 60 - limit);
            Due.is("picks, limit " + limit, x.evens(limit), 60 - limit);
        }
    }

    /** 'A PACK's GOING is a number of TURNS, FORWARD above 0, BACK below'; 'from -60 to 60'. */
    private static void goingFromSixtyBackToSixtyForward() {
        for (int twist = 1; twist <= 60; twist++) {
            TurnedCards x = band(4);
            x.way(2, 1);
            x.way(3, 1);
            for (int c = 0; c < 4; c++) {
                x.pack(c, c);
            }
            picks(x, twist, 5, 10);
            Due.is("forward, S, " + twist, x.going(0, 0), -twist);
            Due.is("back, S, " + twist, x.going(1, 0), twist);
            Due.is("forward, Z, " + twist, x.going(2, 0), -twist);
            Due.is("back, Z, " + twist, x.going(3, 0), twist);
            Due.is("just within the limit, " + twist, x.going(0, twist), 0);
            Due.is("one above the limit, " + twist, x.going(0, twist - 1), -1);
            Due.is("one above the limit, back, " + twist, x.going(1, twist - 1), 1);
        }
    }

    /** '0 for a PACK without CARDS.' */
    private static void goingOfPackWithoutCards() {
        TurnedCards x = band(16);
        picks(x, 60, 0xffff, 0);
        for (int pack = 1; pack <= 3; pack++) {
            Due.is("never had one", x.going(pack, 0), 0);
            Due.is("never had one", x.going(pack, 60), 0);
        }
        for (int c = 0; c < 16; c++) {
            Due.is("still has one", x.going(0, 0), -60);
            x.pack(c, 3);
        }
        Due.is("the last has left it", x.going(0, 0), 0);
        Due.is("they are all in another", x.going(3, 0), -60);
        Due.is("picks", x.evens(0), 60);
        TurnedCards y = band(2);
        y.pack(1, 1);
        y.pick(3, 0);
        y.cards(1);
        Due.is("cards that are gone are in none", y.going(1, 0), 0);
    }

    /** 'NONE: there is none.' Two cards are brought within a limit just if it is half their way apart. */
    private static void goingOfCardsApart() {
        TurnedCards x = band(2);
        picks(x, 60, 1, 2);
        Due.is("120 apart, limit 59", x.going(0, 59), NONE);
        Due.is("120 apart, limit 60", x.going(0, 60), 0);
        Due.is("120 apart, limit 0", x.going(0, 0), NONE);
        TurnedCards y = band(2);
        picks(y, 60, 1, 0);
        Due.is("60 and 0, limit 29", y.going(0, 29), NONE);
        Due.is("60 and 0, limit 30", y.going(0, 30), -30);
        Due.is("60 and 0, limit 31", y.going(0, 31), -29);
        TurnedCards z = band(3);
        z.pick(1, 4);
        Due.is("1, 0 and -1, limit 0", z.going(0, 0), NONE);
        Due.is("1, 0 and -1, limit 1", z.going(0, 1), 0);
        TurnedCards last = band(16);
        last.pick(0x8000, 0);
        Due.is("the last card alone, limit 0", last.going(0, 0), NONE);
        last.pack(15, 3);
        Due.is("in a pack of its own", last.going(3, 0), -1);
        Due.is("the others", last.going(0, 0), 0);
    }

    /** 'CARDS that are FLIPPED stay so': a flipped card is turned on as it is threaded now. */
    private static void goingOfFlippedCards() {
        TurnedCards x = band(2);
        picks(x, 5, 3, 0);
        Due.is("back", x.going(0, 0), -5);
        x.flip(0);
        x.flip(1);
        Due.is("flipped, forward", x.going(0, 0), 5);
        x.flip(1);
        Due.is("one of them flipped", x.going(0, 4), NONE);
        Due.is("one of them flipped, within 5", x.going(0, 5), 0);
        Due.is("asking turns nothing", x.about(0, 2), 105);
    }

    /** 'As many PICKS as the greatest size of all GOINGS'; 'NONE: some PACK has no GOING.' */
    private static void evensOfAllPacks() {
        for (int pack = 0; pack < 4; pack++) {
            TurnedCards x = band(5);
            for (int c = 0; c < 4; c++) {
                x.pack(c, c);
            }
            x.pack(4, pack);
            picks(x, 2, 15, 0);
            picks(x, 4, 0, 1 << pack);
            // The pack asked about has -2 and 0 (the fifth card was never turned), the others 2.
            Due.is("pack " + pack + " has none", x.evens(0), NONE);
            Due.is("pack " + pack + " has one, others the greatest", x.evens(1), 1);
            x.pack(4, (pack + 1) % 4);
            Due.is("the next pack has none", x.evens(0), NONE);
            x.pick(16, 0);
            x.pick(16, 0);
            Due.is("all have one", x.evens(0), 2);
            x.pick(0, 1 << pack);
            Due.is("the greatest is of pack " + pack, x.evens(0), 3);
            Due.is("none is wanted", x.evens(3), 0);
        }
    }

    // ---- 5

    /** 'A PICTURE: rows 0 .. 29, of each CARD a COLOUR, or NONE: any (all at first).' */
    private static void pictureOfThirtyRows() {
        TurnedCards all = band(16);
        paintAll(all, 0, 16);
        Due.is("all are painted", all.count(2), 480);
        for (int from = 0; from < 16; from += 8) {
            TurnedCards x = band(16);
            paintAll(x, from, from + 8);
            for (int r = 0; r < 30; r++) {
                for (int c = from; c < from + 8; c++) {
                    Due.is("what was", x.paint(r, c, NONE), (r + c) % 8);
                }
            }
            Due.is("any again", x.count(2), 0);
        }
    }

    private static void paintAll(TurnedCards x, int from, int to) {
        for (int r = 0; r < 30; r++) {
            for (int c = from; c < to; c++) {
                Due.is("any at first", x.paint(r, c, (r + c) % 8), NONE);
            }
        }
    }

    /** 'HEIGHT: how many rows are looked at (1 .. 30; 1 at first).' */
    private static void heightOfOne() {
        TurnedCards x = band(1);
        x.paint(1, 0, 7);
        dueBest("row 1 is not looked at", x, 0, 101, FORWARD);
        Due.is("turning 1", x.turning(0, 1), BAD);
        Due.is("one pick", x.weave(), 1);
        Due.is("and another", x.weave(), 2);
        Due.is("row 1 is not looked at", x.unlike(), 0);
        Due.is("row 1 is not looked at", x.quarrel(0), NONE);
        Due.is("pick 1 is not looked at", x.wrongs(0), 2);
    }

    /** The same of TURNINGS: 'a TURN for each row'; the last row looked at, and the one behind it. */
    private static void heightOfTurnings() {
        for (int height = 1; height <= 30; height++) {
            TurnedCards x = band(1);
            x.rule(0, height);
            x.paint(height - 1, 0, 7);
            dueNone("the last row of " + height, x);
            x.paint(height - 1, 0, NONE);
            if (height < 30) {
                x.paint(height, 0, 7);
            }
            Due.is("the row behind the last of " + height, x.idles(0), 0);
            Due.is("the last turn of " + height, x.turning(0, height - 1), height == 1 ? FORWARD : BACK);
            Due.is("no turn behind it", x.turning(0, height), BAD);
            Due.is("so many picks", x.weave(), height);
        }
    }

    /** 'In its first rows (HEIGHT, as far as there are PICKS), each row by itself.' */
    private static void heightOfUnlike() {
        int n = 5;
        TurnedCards x = band(n);
        for (int r = 0; r < 30; r++) {
            for (int c = 0; c < n; c++) {
                x.paint(r, c, 7);
            }
        }
        for (int height = 1; height <= 30; height++) {
            x.rule(0, height);
            Due.is("nothing woven", x.unlike(), 0);
        }
        for (int p = 1; p <= 60; p++) {
            x.pick(31, 0);
            Due.is("picks " + p, x.unlike(), n * Math.min(p, 30));
        }
        for (int height = 1; height <= 30; height++) {
            x.rule(0, height);
            Due.is("height " + height, x.unlike(), n * height);
        }
        for (int c = 0; c < n; c++) {
            x.paint(29, c, c == n - 1 ? 7 : NONE);
        }
        Due.is("any is not unlike, in the last row", x.unlike(), n * 29 + 1);
        x.paint(29, n - 1, 2);
        Due.is("nor what it shows (29 forward and one: thread 2)", x.unlike(), n * 29);
    }

    /** 'By the THREADS that PICKS 0, 1, .. (HEIGHT of them at most) SHOW.' */
    private static void heightOfThreading() {
        TurnedCards x = column(30);
        for (int r = 26; r < 30; r++) {
            x.paint(r, 0, r - 22);
        }
        picks(x, 29, 1, 0);
        // Threads 3 2 1 0 round: row 26 is of thread 1, row 27 of 0, 28 of 3, 29 of 2.
        Due.is("by row 26", x.threading(0, 1), 4);
        Due.is("by row 28", x.threading(0, 3), 6);
        Due.is("pick 29 is not yet there", x.threading(0, 2), NONE);
        picks(x, 1, 1, 0);
        Due.is("by row 29", x.threading(0, 2), 7);
        x.rule(0, 29);
        Due.is("row 29 is not looked at", x.threading(0, 2), NONE);
        Due.is("row 28 is", x.threading(0, 3), 6);
        x.rule(0, 30);
        picks(x, 30, 1, 0);
        Due.is("by row 29 alone, though pick 33 shows it too", x.threading(0, 2), 7);
        x.paint(0, 0, 6);
        Due.is("row 0 asks for the same", x.threading(0, 3), 6);
        x.paint(0, 0, 5);
        Due.is("row 28 quarrels with row 0", x.quarrel(0), 28);
        x.rule(0, 28);
        Due.is("row 28 is not looked at", x.quarrel(0), NONE);
        Due.is("by row 0", x.threading(0, 3), 5);
        x.rule(0, 29);
        Due.is("row 28 is looked at", x.quarrel(0), 28);
    }

    /** 'A PICK (within HEIGHT) .. in all rows of PICKS that there are (HEIGHT at most).' */
    private static void heightOfWrongTurns() {
        TurnedCards x = column(30);
        picks(x, 60, 1, 0);
        for (int height = 1; height <= 30; height++) {
            x.rule(0, height);
            Due.is("any picture, height " + height, x.wrongs(0), 2 * height);
            Due.is("the last", x.wrong(0, 2 * height - 1), 10 * (height - 1) + IDLE);
            Due.is("no more", x.wrong(0, 2 * height), NONE);
        }
        x.paint(29, 0, 7);
        Due.is("no turn shows 7 in row 29", x.wrongs(0), 0);
        x.rule(0, 29);
        Due.is("row 29 is not looked at", x.wrongs(0), 58);
    }

    /** 'No FLOAT longer than FLOATS (0 .. 9; 3 at first).' */
    private static void floatsZeroToNine() {
        for (int floats = 0; floats <= 9; floats++) {
            TurnedCards x = column(floats + 1);
            x.rule(1, floats);
            for (int r = 0; r <= floats; r++) {
                x.paint(r, 0, 3);
            }
            Due.is("as long as FLOATS " + floats, x.idles(0), floats);
            Due.is("forward first", x.turning(0, 0), FORWARD);
            Due.is("then idle", x.turning(0, floats), floats == 0 ? FORWARD : IDLE);
            x.rule(0, floats + 2);
            x.paint(floats + 1, 0, 3);
            dueNone("longer than FLOATS " + floats, x);
            x.paint(floats + 1, 0, 2);
            Due.is("turned out of it", x.idles(0), floats);
            Due.is("turned out of it", x.turning(0, floats + 1), FORWARD);
        }
        TurnedCards first = column(5, 3, 3, 3, 3, 3);
        dueNone("four, 3 at first", first);
        first.rule(0, 4);
        dueBest("three, 3 at first", first, 3, 101, FORWARD, IDLE, IDLE, IDLE);
    }

    /** 'What is IDLE already counts on.' */
    private static void floatsCountOn() {
        for (int already = 0; already <= 4; already++) {
            TurnedCards x = column(1, 3);
            x.pick(1, 0);
            picks(x, already, 0, 0);
            for (int more = 1; more <= 5; more++) {
                x.rule(0, more);
                x.paint(more - 1, 0, 3);
                boolean fits = already + more <= 3;
                Due.is(already + " already and " + more + " more", x.idles(0), fits ? more : NONE);
            }
        }
        TurnedCards flipped = column(2, 3, 3);
        flipped.pick(1, 0);
        flipped.pick(0, 0);
        flipped.flip(0);
        Due.is("a flip does not end it, two more", flipped.idles(0), 2);
        flipped.pick(0, 0);
        Due.is("a flip does not end it, two more", flipped.idles(0), NONE);
        flipped.unweave();
        Due.is("what was unwoven does not count", flipped.idles(0), 2);
        TurnedCards zero = column(1, 0);
        zero.pick(0, 0);
        picks(zero, 2, 0, 0);
        Due.is("from pick 0 on, three already", zero.idles(0), NONE);
        zero.unweave();
        Due.is("from pick 0 on, two already", zero.idles(0), 1);
    }

    /** A float that is longer than FLOATS already is no turning's: what is turned ends it. */
    private static void floatsLongerThanTheRule() {
        for (int floats = 0; floats <= 9; floats++) {
            TurnedCards x = column(2, NONE, 3);
            x.rule(1, floats);
            picks(x, 59, 0, 0);
            x.paint(0, 0, 0);
            dueNone("idle on, FLOATS " + floats, x);
            x.paint(0, 0, 3);
            x.paint(1, 0, 2);
            dueBest("turned, FLOATS " + floats, x, 0, 102, FORWARD, FORWARD);
            x.paint(1, 0, 3);
            Due.is("turned, then idle, FLOATS " + floats, x.idles(0), floats == 0 ? NONE : 1);
        }
    }

    /** Turnings are found whether or not there is room for them; weaving them is refused. */
    private static void turningsBeyondSixty() {
        TurnedCards x = column(30);
        picks(x, 60, 1, 0);
        dueBest("behind sixty picks", x, 0, 130, BACK, BACK);
        Due.is("no room", x.weave(), FULL);
        Due.is("nothing is woven", x.about(0, 2), 160);
    }

    /** 'THE BEST: the fewest IDLE; of like ones the least size of TWIST; of like ones the first by TURNS.' */
    private static void bestOfLikeOnes() {
        TurnedCards x = column(30);
        dueBest("thirty of any", x, 0, 100, FORWARD, FORWARD, FORWARD, FORWARD, FORWARD, FORWARD, FORWARD,
                FORWARD, FORWARD, FORWARD, FORWARD, FORWARD, FORWARD, FORWARD, FORWARD, BACK, BACK, BACK,
                BACK, BACK, BACK, BACK, BACK, BACK, BACK, BACK, BACK, BACK, BACK, BACK);
        x.rule(0, 29);
        Due.is("an odd number, 1 and -1 are of a size: forward", x.behind(0), 101);
        Due.is("the fifteenth", x.turning(0, 14), FORWARD);
        Due.is("the sixteenth", x.turning(0, 15), BACK);
        x.way(0, 1);
        Due.is("an odd number, Z", x.behind(0), 99);
        TurnedCards far = column(30);
        picks(far, 30, 1, 0);
        Due.is("thirty back to 0", far.behind(0), 100);
        Due.is("all back", far.turning(0, 0), BACK);
        far.pick(1, 0);
        Due.is("not quite to 0", far.behind(0), 101);
        TurnedCards below = column(30);
        picks(below, 60, 0, 1);
        Due.is("from -60", below.behind(0), 70);
        Due.is("all forward", below.turning(0, 29), FORWARD);
    }

    /** 'The least size of TWIST; of like ones the first by TURNS': of 2 and -2 neither is less. */
    private static void bestOfBothSizes() {
        TurnedCards x = column(4, 2, 3, 2, 2);
        recolour(x, 3, 1, 2, 2);
        x.rule(1, 1);
        x.pick(0, 1);
        // Else IDLE, FORWARD three times: one idle turn too, and a twist of 2.
        dueBest("-2 is the first by turns", x, 1, 98, BACK, BACK, FORWARD, IDLE);
        TurnedCards y = column(2, 0, 0);
        recolour(y, 0, 3, 0, 0);
        y.rule(1, 9);
        dueBest("0 is less than 2, though back comes first", y, 0, 100, BACK, FORWARD);
        TurnedCards z = column(5, 0, 0, 1, 0, 0);
        recolour(z, 1, 0, 0, 1);
        z.rule(1, 1);
        picks(z, 2, 1, 0);
        // IDLE in row 0 and FORWARD in row 1, or BACK in row 2, have as few idle turns and twist.
        dueBest("of four like ones the first", z, 2, 103, FORWARD, IDLE, FORWARD, BACK, IDLE);
    }

    /** 'No FLOAT longer than FLOATS': two floats with one turn between them are two. */
    private static void bestByFloats() {
        TurnedCards x = column(4, 2, 2, 2, 2);
        recolour(x, 1, 1, 2, 2);
        x.rule(1, 1);
        dueBest("one and one", x, 2, 102, FORWARD, IDLE, FORWARD, IDLE);
        TurnedCards y = column(3, 1, 1, 1);
        recolour(y, 1, 0, 0, 1);
        y.rule(1, 1);
        dueBest("from pick 0, one and one", y, 2, 101, IDLE, FORWARD, IDLE);
        y.rule(0, 4);
        y.paint(3, 0, 1);
        dueNone("from pick 0, three in four rows", y);
        TurnedCards nine = column(19);
        recolour(nine, 5, 0, 0, 5);
        nine.rule(1, 9);
        for (int r = 0; r < 30; r++) {
            nine.paint(r, 0, 5);
        }
        // Threads 0 and 3 alone are of it: FORWARD from the one to the other, no way back.
        Due.is("nine and nine", nine.idles(0), 18);
        Due.is("the turn between them", nine.turning(0, 9), FORWARD);
        nine.rule(0, 20);
        dueNone("nineteen in twenty rows", nine);
    }

    /** 'How many PICKS there are then; NONE: some CARD has none; else FULL: they would be more than 60.' */
    private static void weaveToSixty() {
        for (int height = 1; height <= 30; height++) {
            TurnedCards x = band(2);
            picks(x, 60 - height, 3, 0);
            x.rule(0, height);
            Due.is("just sixty, height " + height, x.weave(), 60);
            Due.is("no more, height " + height, x.weave(), FULL);
            x.unweave();
            Due.is("room for one, height " + height, x.weave(), height == 1 ? 60 : FULL);
            if (height > 1) {
                x.rule(0, 1);
                x.paint(0, 1, 7);
                Due.is("NONE, with room for it", x.weave(), NONE);
                x.rule(0, height);
                Due.is("NONE ahead of FULL", x.weave(), NONE);
                Due.is("nothing is woven", x.count(1), 59);
            }
        }
    }

    /** A picture of any colours: all cards have turnings, of which the first are taken. */
    private static void weaveWithoutPicture() {
        TurnedCards x = new TurnedCards();
        Due.is("one pick", x.weave(), 1);
        Due.is("forward", x.turn(0, 3), FORWARD);
        Due.is("back to 0", x.weave(), 2);
        Due.is("back", x.turn(1, 3), BACK);
        Due.is("unwoven", x.unweave(), 1);
        Due.is("unwoven", x.unweave(), 0);
    }

    /** 'THE QUARREL: the first row by which, with those ahead of it, some THREAD would have two.' */
    private static void quarrelByRow() {
        for (int row = 1; row < 30; row++) {
            TurnedCards x = column(30);
            picks(x, 30, 0, 0);
            x.paint(0, 0, 1);
            x.paint(row, 0, 2);
            Due.is("row " + row, x.quarrel(0), row);
            Due.is("with it no threading", x.threading(0, 3), STATE);
            x.rule(0, row);
            Due.is("row " + row + " is not looked at", x.quarrel(0), NONE);
            x.rule(0, 30);
            x.paint(row, 0, 1);
            Due.is("the same colour again", x.quarrel(0), NONE);
            x.paint(0, 0, NONE);
            Due.is("any ahead of it", x.quarrel(0), NONE);
            x.paint(29, 0, 3);
            Due.is("the last row", x.quarrel(0), row == 29 ? NONE : 29);
        }
        TurnedCards two = column(30);
        picks(two, 30, 1, 0);
        repaint(two, 1, 2, NONE, NONE, NONE, 1, NONE, NONE, 2);
        // Threads 3 2 1 0 round: row 5 quarrels with row 1, row 8 with row 0.
        Due.is("the first of two", two.quarrel(0), 5);
        two.paint(1, 0, 1);
        Due.is("the other", two.quarrel(0), 8);
        two.paint(8, 0, 1);
        Due.is("none", two.quarrel(0), NONE);
        two.flip(0);
        Due.is("flipped cards have one too", two.threading(0, 3), 1);
    }

    /** While nothing is woven no row asks for anything. */
    private static void threadingOfNothing() {
        TurnedCards x = column(30, 1, 2, 3);
        for (int t = 0; t < 4; t++) {
            Due.is("any", x.threading(0, t), NONE);
        }
        Due.is("no quarrel", x.quarrel(0), NONE);
        x.pick(0, 0);
        Due.is("pick 0, idle: thread 0", x.threading(0, 0), 1);
        Due.is("any", x.threading(0, 3), NONE);
        x.pick(0, 0);
        Due.is("a quarrel in row 1", x.quarrel(0), 1);
        x.unweave();
        Due.is("unwoven", x.quarrel(0), NONE);
        x.unweave();
        Due.is("unwoven", x.threading(0, 0), NONE);
        x.paint(0, 0, 0);
        x.pick(0, 0);
        Due.is("colour 0 is one, not any", x.threading(0, 0), 0);
    }

    /** 'In all rows of PICKS that there are': without picks no turn was wrong. */
    private static void wrongTurnsOfNothing() {
        TurnedCards x = column(30);
        Due.is("nothing woven", x.wrongs(0), 0);
        Due.is("nothing woven", x.wrong(0, 0), NONE);
        x.pick(0, 0);
        Due.is("one pick", x.wrongs(0), 2);
        x.unweave();
        Due.is("unwoven", x.wrongs(0), 0);
        Due.is("unwoven", x.wrong(0, 0), NONE);
    }

    /** 'Told as 10 times the PICK and the TURN; in order.' */
    private static void wrongTurnsInOrder() {
        TurnedCards x = column(30);
        for (int p = 0; p < 30; p++) {
            x.pick(p % 3 == FORWARD ? 1 : 0, p % 3 == BACK ? 1 : 0);
        }
        int[][] others = {{BACK, IDLE}, {FORWARD, IDLE}, {FORWARD, BACK}};
        for (int p = 0; p < 30; p++) {
            Due.is("the first of pick " + p, x.wrong(0, 2 * p), 10 * p + others[p % 3][0]);
            Due.is("the second of pick " + p, x.wrong(0, 2 * p + 1), 10 * p + others[p % 3][1]);
        }
        Due.is("all", x.wrongs(0), 60);
        Due.is("ahead of the first", x.wrong(0, -1), NONE);
        Due.is("behind the last", x.wrong(0, 60), NONE);
    }

    /** Rows behind the last pick, and picks behind the last row, are not looked at. */
    private static void wrongTurnsAsThereArePicks() {
        TurnedCards x = column(3, 3, 1, 7);
        picks(x, 2, 1, 0);
        Due.is("two picks of three rows", x.wrongs(0), 1);
        Due.is("back in pick 1", x.wrong(0, 0), 11);
        x.pick(1, 0);
        Due.is("no turn shows 7", x.wrongs(0), 0);
        x.rule(0, 2);
        Due.is("two rows of three picks", x.wrongs(0), 1);
        Due.is("back in pick 1", x.wrong(0, 0), 11);
        x.rule(0, 1);
        Due.is("row 0 is as told, no other turn shows 3", x.wrongs(0), 0);
        x.paint(0, 0, 0);
        Due.is("idle in pick 0 shows 0", x.wrong(0, 0), IDLE);
        Due.is("that alone", x.wrongs(0), 1);
    }

    /** 'Of CARDS that were never FLIPPED; what was UNWOVEN was not.' */
    private static void wrongTurnsOfFlipped() {
        TurnedCards x = column(1);
        x.pick(1, 0);
        x.pick(1, 0);
        x.flip(0);
        Due.is("flipped behind HEIGHT", x.wrongs(0), STATE);
        x.flip(0);
        Due.is("flipped and back", x.wrongs(0), STATE);
        x.pick(1, 0);
        x.unweave();
        Due.is("still flipped", x.wrongs(0), STATE);
        x.unweave();
        Due.is("unwoven with the pick ahead of the flip", x.wrongs(0), 2);
        x.unweave();
        x.flip(0);
        Due.is("flipped while nothing is woven", x.wrongs(0), STATE);
        Due.is("flipped while nothing is woven", x.wrong(0, 0), STATE);
        x.cards(1);
        Due.is("a new band", x.wrongs(0), 0);
    }

    /** '0 CARDS, 1 PICKS, 2 COLOURS in the PICTURE that are not NONE (in all rows), 3 Z, 4 unlike COLOURS.' */
    private static void countsFromEmptyToFull() {
        TurnedCards x = band(16);
        Due.is("no Z", x.count(3), 0);
        Due.is("four colours", x.count(4), 4);
        for (int c = 0; c < 16; c++) {
            x.way(c, 1);
            Due.is("Z", x.count(3), c + 1);
        }
        x.flip(15);
        Due.is("flipped", x.count(3), 15);
        x.paint(29, 15, 0);
        Due.is("colour 0 in the last row, behind HEIGHT", x.count(2), 1);
        x.paint(29, 15, 0);
        Due.is("painted once more", x.count(2), 1);
        x.paint(29, 15, NONE);
        Due.is("any", x.count(2), 0);
        x.thread(15, 3, 7);
        Due.is("one more colour, of the last card's last thread", x.count(4), 5);
        for (int c = 0; c < 16; c++) {
            for (int t = 0; t < 4; t++) {
                x.thread(c, t, 7);
            }
        }
        Due.is("one colour", x.count(4), 1);
        picks(x, 60, 1, 0);
        Due.is("sixty picks", x.count(1), 60);
        Due.is("sixteen cards", x.count(0), 16);
    }
}
