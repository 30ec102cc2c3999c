import java.util.Arrays;

/**
 * A band woven with four-holed cards: what the picks show, the twist that gathers,
 * and what turnings, threadings or wrong turns would answer a picture.
 */
public final class TurnedCards {
    public static final int UNKNOWN = -1, BAD = -2, STATE = -3, FULL = -4, NONE = -99;

    private static final int MOST_CARDS = 16, FIRST_CARDS = 4, MOST_PICKS = 60, MOST_ROWS = 30;
    private static final int PLACES = 4, PACKS = 4, COLOURS = 8, TURNS = 3;
    private static final int FORWARD = 0, BACK = 1, IDLE = 2;
    private static final int FIRST_HEIGHT = 1, FIRST_FLOATS = 3, MOST_FLOATS = 9;
    private static final int MOST_LIMIT = 60, FARTHEST_GOING = 60;
    private static final int TWIST_MORE = 100;

    private final Card[] band;
    private final Planner planner;
    private final int[] wrongTurns;
    private int width;
    private int picks;
    private int height;
    private int floats;

    public TurnedCards() {
        band = new Card[MOST_CARDS];
        for (int c = 0; c < MOST_CARDS; c++) {
            band[c] = new Card();
        }
        planner = new Planner();
        wrongTurns = new int[MOST_ROWS * (TURNS - 1)];
        startAgain(FIRST_CARDS);
    }

    // ---- cards

    public int cards(int n) {
        if (!within(n, 1, MOST_CARDS)) {
            return BAD;
        }
        int before = width;
        startAgain(n);
        return before;
    }

    public int thread(int card, int thread, int colour) {
        if (!isCard(card) || !isThread(thread)) {
            return UNKNOWN;
        }
        if (!isColour(colour)) {
            return BAD;
        }
        if (picks > 0) {
            return STATE;
        }
        Card one = band[card];
        int before = one.colours[thread];
        one.colours[thread] = colour;
        one.planned = false;
        return before;
    }

    public int way(int card, int way) {
        if (!isCard(card)) {
            return UNKNOWN;
        }
        if (!within(way, 0, 1)) {
            return BAD;
        }
        if (picks > 0) {
            return STATE;
        }
        Card one = band[card];
        int before = one.threaded;
        one.threaded = way;
        one.planned = false;
        return before;
    }

    public int flip(int card) {
        if (!isCard(card)) {
            return UNKNOWN;
        }
        Card one = band[card];
        one.turnOver();
        one.flips++;
        return one.threaded;
    }

    public int pack(int card, int pack) {
        if (!isCard(card) || !isPack(pack)) {
            return UNKNOWN;
        }
        int before = band[card].inPack;
        band[card].inPack = pack;
        return before;
    }

    public int about(int card, int what) {
        if (!isCard(card)) {
            return UNKNOWN;
        }
        Card one = band[card];
        switch (what) {
            case 0:
                return one.threaded;
            case 1:
                return one.inPack;
            case 2:
                return one.twist + TWIST_MORE;
            case 3:
                return one.idleBehind(picks);
            case 4:
                return one.flips;
            default:
                return BAD;
        }
    }

    public int at(int card, int place) {
        if (!isCard(card)) {
            return UNKNOWN;
        }
        if (!within(place, 0, PLACES - 1)) {
            return BAD;
        }
        return band[card].threadAt[place];
    }

    // ---- picks

    public int pick(int forward, int back) {
        int all = (1 << width) - 1;
        if (((forward | back) & ~all) != 0 || (forward & back) != 0) {
            return BAD;
        }
        if (picks >= MOST_PICKS) {
            return FULL;
        }
        for (int c = 0; c < width; c++) {
            band[c].turnIn(picks, turnOfBits(forward, back, c));
        }
        picks++;
        return picks;
    }

    public int packs(int one, int two, int three, int four) {
        if (!isTurn(one) || !isTurn(two) || !isTurn(three) || !isTurn(four)) {
            return BAD;
        }
        if (picks >= MOST_PICKS) {
            return FULL;
        }
        for (int c = 0; c < width; c++) {
            band[c].turnIn(picks, turnOfPack(band[c].inPack, one, two, three, four));
        }
        picks++;
        return picks;
    }

    public int unweave() {
        if (picks <= 0) {
            return STATE;
        }
        picks--;
        for (int c = 0; c < width; c++) {
            band[c].takeBack(picks);
        }
        return picks;
    }

    public int turn(int pick, int card) {
        if (!isPick(pick) || !isCard(card)) {
            return UNKNOWN;
        }
        return band[card].turns[pick];
    }

    public int shows(int pick, int card, boolean back) {
        if (!isPick(pick) || !isCard(card)) {
            return UNKNOWN;
        }
        return band[card].colourOn(pick, back);
    }

    public int shown(int pick, int card, boolean back) {
        if (!isPick(pick) || !isCard(card)) {
            return UNKNOWN;
        }
        return band[card].threadOn(pick, back);
    }

    public int slant(int pick, int card) {
        if (!isPick(pick) || !isCard(card)) {
            return UNKNOWN;
        }
        return band[card].slants[pick];
    }

    public int longest(int card) {
        if (!isCard(card)) {
            return UNKNOWN;
        }
        return band[card].longestFloat(picks);
    }

    public int many(int pick, int colour) {
        if (!isPick(pick)) {
            return UNKNOWN;
        }
        if (!isColour(colour)) {
            return BAD;
        }
        int found = 0;
        for (int c = 0; c < width; c++) {
            if (band[c].colourOn(pick, false) == colour) {
                found++;
            }
        }
        return found;
    }

    // ---- the band

    public int repeat() {
        for (int p = 1; p < picks; p++) {
            if (repeatsBy(p)) {
                return p;
            }
        }
        return picks;
    }

    public int is(int what) {
        if (!within(what, 0, 1)) {
            return BAD;
        }
        for (int p = 0; p < picks; p++) {
            if (what == 0 ? !mirroredIn(p) : !likeBackIn(p)) {
                return 0;
            }
        }
        return 1;
    }

    public int rows() {
        int unlike = 0;
        for (int p = 0; p < picks; p++) {
            if (!shownAhead(p)) {
                unlike++;
            }
        }
        return unlike;
    }

    public int worst(boolean card) {
        int first = 0;
        for (int c = 1; c < width; c++) {
            if (Math.abs(band[c].twist) > Math.abs(band[first].twist)) {
                first = c;
            }
        }
        return card ? first : Math.abs(band[first].twist);
    }

    // ---- evened out

    public int going(int pack, int limit) {
        if (!isPack(pack)) {
            return UNKNOWN;
        }
        if (!within(limit, 0, MOST_LIMIT)) {
            return BAD;
        }
        return goingOf(pack, limit);
    }

    public int evens(int limit) {
        if (!within(limit, 0, MOST_LIMIT)) {
            return BAD;
        }
        int most = 0;
        for (int pack = 0; pack < PACKS; pack++) {
            int turnsOn = goingOf(pack, limit);
            if (turnsOn == NONE) {
                return NONE;
            }
            most = Math.max(most, Math.abs(turnsOn));
        }
        return most;
    }

    // ---- pictures

    public int paint(int row, int card, int colour) {
        if (!isCard(card)) {
            return UNKNOWN;
        }
        if (!within(row, 0, MOST_ROWS - 1) || (colour != NONE && !isColour(colour))) {
            return BAD;
        }
        Card one = band[card];
        int before = one.picture[row];
        one.picture[row] = colour;
        one.planned = false;
        return before;
    }

    public int rule(int what, int v) {
        if (what == 0 && within(v, 1, MOST_ROWS)) {
            int before = height;
            height = v;
            forgetPlans();
            return before;
        }
        if (what == 1 && within(v, 0, MOST_FLOATS)) {
            int before = floats;
            floats = v;
            forgetPlans();
            return before;
        }
        return BAD;
    }

    public int unlike() {
        int found = 0;
        for (int row = 0; row < wovenRows(); row++) {
            for (int c = 0; c < width; c++) {
                if (!band[c].fits(row, band[c].fronts[row])) {
                    found++;
                }
            }
        }
        return found;
    }

    public int idles(int card) {
        if (!isCard(card)) {
            return UNKNOWN;
        }
        return plannedCard(card).planIdles;
    }

    public int turning(int card, int i) {
        if (!isCard(card)) {
            return UNKNOWN;
        }
        if (!within(i, 0, height - 1)) {
            return BAD;
        }
        Card one = plannedCard(card);
        return one.planIdles == NONE ? NONE : one.plan[i];
    }

    public int behind(int card) {
        if (!isCard(card)) {
            return UNKNOWN;
        }
        Card one = plannedCard(card);
        return one.planIdles == NONE ? NONE : one.planTwist + TWIST_MORE;
    }

    public int weave() {
        for (int c = 0; c < width; c++) {
            if (plannedCard(c).planIdles == NONE) {
                return NONE;
            }
        }
        if (picks + height > MOST_PICKS) {
            return FULL;
        }
        for (int row = 0; row < height; row++) {
            for (int c = 0; c < width; c++) {
                band[c].turnIn(picks, band[c].plan[row]);
            }
            picks++;
        }
        return picks;
    }

    public int threading(int card, int thread) {
        if (!isCard(card) || !isThread(thread)) {
            return UNKNOWN;
        }
        if (band[card].quarrelRow(wovenRows()) != NONE) {
            return STATE;
        }
        return band[card].wantedOf(thread, wovenRows());
    }

    public int quarrel(int card) {
        if (!isCard(card)) {
            return UNKNOWN;
        }
        return band[card].quarrelRow(wovenRows());
    }

    public int wrongs(int card) {
        if (!isCard(card)) {
            return UNKNOWN;
        }
        if (band[card].flips > 0) {
            return STATE;
        }
        return listWrongTurns(band[card]);
    }

    public int wrong(int card, int i) {
        if (!isCard(card)) {
            return UNKNOWN;
        }
        if (band[card].flips > 0) {
            return STATE;
        }
        int found = listWrongTurns(band[card]);
        return within(i, 0, found - 1) ? wrongTurns[i] : NONE;
    }

    public int count(int what) {
        switch (what) {
            case 0:
                return width;
            case 1:
                return picks;
            case 2:
                return paintedCells();
            case 3:
                return cardsThreadedZ();
            case 4:
                return unlikeColours();
            default:
                return BAD;
        }
    }

    // ---- what an argument may be

    private static boolean within(int value, int least, int most) {
        return value >= least && value <= most;
    }

    private boolean isCard(int card) {
        return within(card, 0, width - 1);
    }

    private boolean isPick(int pick) {
        return within(pick, 0, picks - 1);
    }

    private static boolean isThread(int thread) {
        return within(thread, 0, PLACES - 1);
    }

    private static boolean isPack(int pack) {
        return within(pack, 0, PACKS - 1);
    }

    private static boolean isColour(int colour) {
        return within(colour, 0, COLOURS - 1);
    }

    private static boolean isTurn(int turn) {
        return within(turn, 0, TURNS - 1);
    }

    // ---- helpers of the calls

    private void startAgain(int n) {
        width = n;
        picks = 0;
        height = FIRST_HEIGHT;
        floats = FIRST_FLOATS;
        for (int c = 0; c < MOST_CARDS; c++) {
            band[c].reset();
        }
    }

    private static int turnOfBits(int forward, int back, int card) {
        if ((forward >> card & 1) == 1) {
            return FORWARD;
        }
        return (back >> card & 1) == 1 ? BACK : IDLE;
    }

    private static int turnOfPack(int pack, int one, int two, int three, int four) {
        switch (pack) {
            case 0:
                return one;
            case 1:
                return two;
            case 2:
                return three;
            default:
                return four;
        }
    }

    private boolean likeRows(int pick, int other) {
        for (int c = 0; c < width; c++) {
            if (band[c].colourOn(pick, false) != band[c].colourOn(other, false)) {
                return false;
            }
        }
        return true;
    }

    private boolean repeatsBy(int p) {
        for (int later = p; later < picks; later++) {
            if (!likeRows(later, later - p)) {
                return false;
            }
        }
        return true;
    }

    private boolean shownAhead(int pick) {
        for (int ahead = 0; ahead < pick; ahead++) {
            if (likeRows(ahead, pick)) {
                return true;
            }
        }
        return false;
    }

    private boolean mirroredIn(int pick) {
        for (int c = 0; c < width; c++) {
            if (band[c].colourOn(pick, false) != band[width - 1 - c].colourOn(pick, false)) {
                return false;
            }
        }
        return true;
    }

    private boolean likeBackIn(int pick) {
        for (int c = 0; c < width; c++) {
            if (band[c].colourOn(pick, false) != band[c].colourOn(pick, true)) {
                return false;
            }
        }
        return true;
    }

    private int goingOf(int pack, int limit) {
        for (int size = 0; size <= FARTHEST_GOING; size++) {
            if (evensOut(pack, size, limit)) {
                return size;
            }
            if (evensOut(pack, -size, limit)) {
                return -size;
            }
        }
        return NONE;
    }

    private boolean evensOut(int pack, int turnsOn, int limit) {
        for (int c = 0; c < width; c++) {
            Card one = band[c];
            if (one.inPack == pack && Math.abs(one.twist + turnsOn * one.sense()) > limit) {
                return false;
            }
        }
        return true;
    }

    private int wovenRows() {
        return Math.min(height, picks);
    }

    private void forgetPlans() {
        for (int c = 0; c < width; c++) {
            band[c].planned = false;
        }
    }

    /** A plan is kept until something that it rests on changes, as it is asked for turn by turn. */
    private Card plannedCard(int card) {
        Card one = band[card];
        if (!one.planned) {
            planner.plan(one, picks, height, floats);
            one.planned = true;
        }
        return one;
    }

    private int listWrongTurns(Card one) {
        int rows = wovenRows();
        int found = 0;
        for (int pick = 0; pick < rows; pick++) {
            for (int turn = 0; turn < TURNS; turn++) {
                if (turn != one.turns[pick] && one.fitsWith(pick, turn, rows)) {
                    wrongTurns[found] = 10 * pick + turn;
                    found++;
                }
            }
        }
        return found;
    }

    private int paintedCells() {
        int found = 0;
        for (int c = 0; c < width; c++) {
            for (int row = 0; row < MOST_ROWS; row++) {
                if (band[c].picture[row] != NONE) {
                    found++;
                }
            }
        }
        return found;
    }

    private int cardsThreadedZ() {
        int found = 0;
        for (int c = 0; c < width; c++) {
            found += band[c].threaded;
        }
        return found;
    }

    private int unlikeColours() {
        int seen = 0;
        for (int c = 0; c < width; c++) {
            for (int j = 0; j < PLACES; j++) {
                seen |= 1 << band[c].colours[j];
            }
        }
        return Integer.bitCount(seen);
    }

    /** One card: how it lies now, what each pick did to it, and its column of the picture. */
    private static final class Card {
        final int[] threadAt = new int[PLACES];
        final int[] colours = new int[PLACES];
        final int[] turns = new int[MOST_PICKS];
        final int[] fronts = new int[MOST_PICKS];
        final int[] slants = new int[MOST_PICKS];
        final int[] flipsAhead = new int[MOST_PICKS];
        final int[] picture = new int[MOST_ROWS];
        final int[] plan = new int[MOST_ROWS];
        int threaded;
        int inPack;
        int twist;
        int flips;
        int planIdles;
        int planTwist;
        boolean planned;

        void reset() {
            for (int j = 0; j < PLACES; j++) {
                threadAt[j] = j;
                colours[j] = j;
            }
            Arrays.fill(picture, NONE);
            threaded = 0;
            inPack = 0;
            twist = 0;
            flips = 0;
            planned = false;
        }

        /** What one turn forward adds to the twist. */
        int sense() {
            return threaded == 0 ? 1 : -1;
        }

        int twistOf(int turn) {
            if (turn == IDLE) {
                return 0;
            }
            return turn == FORWARD ? sense() : -sense();
        }

        void turnOver() {
            exchange(0, 1);
            exchange(2, 3);
            threaded = 1 - threaded;
            planned = false;
        }

        private void exchange(int place, int other) {
            int thread = threadAt[place];
            threadAt[place] = threadAt[other];
            threadAt[other] = thread;
        }

        void turnIn(int pick, int turn) {
            flipsAhead[pick] = flips;
            turns[pick] = turn;
            slants[pick] = slantOf(pick, turn);
            move(turn);
            // A turn (0, 1) brings what it shows to the place of the same number.
            fronts[pick] = turn == IDLE ? showing(pick) : threadAt[turn];
        }

        /** The flips behind the pick go first: the pick was woven as the card lay without them. */
        void takeBack(int pick) {
            if ((flips - flipsAhead[pick]) % 2 != 0) {
                turnOver();
            }
            flips = flipsAhead[pick];
            move(opposite(turns[pick]));
        }

        private static int opposite(int turn) {
            return turn == IDLE ? IDLE : 1 - turn;
        }

        private int slantOf(int pick, int turn) {
            if (turn == IDLE) {
                return pick > 0 ? slants[pick - 1] : 0;
            }
            return turn == threaded ? 0 : 1;
        }

        private void move(int turn) {
            planned = false;
            twist += twistOf(turn);
            if (turn == FORWARD) {
                int last = threadAt[PLACES - 1];
                System.arraycopy(threadAt, 0, threadAt, 1, PLACES - 1);
                threadAt[0] = last;
            } else if (turn == BACK) {
                int first = threadAt[0];
                System.arraycopy(threadAt, 1, threadAt, 0, PLACES - 1);
                threadAt[PLACES - 1] = first;
            }
        }

        /** The thread that the front shows on, if the card is idle in the next pick. */
        int showing(int picks) {
            return picks > 0 ? fronts[picks - 1] : threadAt[0];
        }

        int threadOn(int pick, boolean back) {
            // Turns and flips leave opposite threads opposite, so the back is told by the front.
            return back ? (fronts[pick] + 2) % PLACES : fronts[pick];
        }

        int colourOn(int pick, boolean back) {
            return colours[threadOn(pick, back)];
        }

        int idleBehind(int picks) {
            int length = 0;
            while (length < picks && turns[picks - 1 - length] == IDLE) {
                length++;
            }
            return length;
        }

        int longestFloat(int picks) {
            int most = 0;
            int length = 0;
            for (int p = 0; p < picks; p++) {
                length = turns[p] == IDLE ? length + 1 : 0;
                most = Math.max(most, length);
            }
            return most;
        }

        boolean fits(int row, int thread) {
            return picture[row] == NONE || picture[row] == colours[thread];
        }

        /** The thread at a place, if the card were turned on so often (forward, round). */
        int threadAfter(int turned, int place) {
            return threadAt[Math.floorMod(place - turned, PLACES)];
        }

        int wantedOf(int thread, int rows) {
            for (int row = 0; row < rows; row++) {
                if (fronts[row] == thread && picture[row] != NONE) {
                    return picture[row];
                }
            }
            return NONE;
        }

        int quarrelRow(int rows) {
            for (int row = 0; row < rows; row++) {
                int ahead = wantedOf(fronts[row], row);
                if (picture[row] != NONE && ahead != NONE && ahead != picture[row]) {
                    return row;
                }
            }
            return NONE;
        }

        /** Only for a card that was never flipped: then thread j was at place j at first. */
        boolean fitsWith(int pick, int otherTurn, int rows) {
            int turned = 0;
            int front = 0;
            for (int row = 0; row < rows; row++) {
                int turn = row == pick ? otherTurn : turns[row];
                if (turn == FORWARD) {
                    turned++;
                    front = Math.floorMod(-turned, PLACES);
                } else if (turn == BACK) {
                    turned--;
                    front = Math.floorMod(1 - turned, PLACES);
                }
                if (!fits(row, front)) {
                    return false;
                }
            }
            return true;
        }
    }

    /**
     * Finds the best turnings of a card. A lie of the card is told by how far it is turned on
     * (round), at which place the thread lies that the front shows (0 or 1, always: a turn
     * forward leaves it at 0, one back at 1, a flip exchanges them), and how long it is idle.
     * For each lie ahead of each row: the fewest idle turns to the last row, and by bits how
     * many more turns forward than back those may have.
     */
    private static final class Planner {
        private static final int SHOWING_PLACES = 2, RUNS = MOST_FLOATS + 1;
        private static final int LIES = PLACES * SHOWING_PLACES * RUNS;
        private static final int IMPOSSIBLE = 1000, BEYOND_TWIST = 1000;
        private static final int NO_MORE = MOST_ROWS;

        private final int[] fewest = new int[(MOST_ROWS + 1) * LIES];
        private final long[] surplus = new long[(MOST_ROWS + 1) * LIES];
        private int bestIdles;
        private long bestSurplus;
        private int turned;
        private int place;
        private int run;
        private long wanted;

        void plan(Card card, int picks, int height, int floats) {
            fillEnd(height);
            for (int row = height - 1; row >= 0; row--) {
                fillRow(card, row, floats);
            }
            turned = 0;
            place = card.showing(picks) == card.threadAt[0] ? 0 : 1;
            run = Math.min(card.idleBehind(picks), floats);
            int start = index(0, turned, place, run);
            if (fewest[start] >= IMPOSSIBLE) {
                card.planIdles = NONE;
                return;
            }
            card.planIdles = fewest[start];
            card.planTwist = card.twist;
            wantLeastTwist(card, surplus[start], height);
            for (int row = 0; row < height; row++) {
                card.plan[row] = firstTurn(card, row);
                goOn(card, card.plan[row]);
            }
        }

        private static int index(int row, int turned, int place, int run) {
            return ((row * PLACES + turned) * SHOWING_PLACES + place) * RUNS + run;
        }

        private static int roundFrom(int turned, int turn) {
            return (turned + (turn == FORWARD ? 1 : PLACES - 1)) % PLACES;
        }

        private void fillEnd(int height) {
            int from = index(height, 0, 0, 0);
            for (int lie = 0; lie < LIES; lie++) {
                fewest[from + lie] = 0;
                surplus[from + lie] = 1L << NO_MORE;
            }
        }

        private void fillRow(Card card, int row, int floats) {
            for (int from = 0; from < PLACES; from++) {
                bestIdles = IMPOSSIBLE;
                bestSurplus = 0;
                offerTurned(card, row, from, FORWARD);
                offerTurned(card, row, from, BACK);
                int turnedIdles = bestIdles;
                long turnedSurplus = bestSurplus;
                for (int showing = 0; showing < SHOWING_PLACES; showing++) {
                    boolean mayIdle = card.fits(row, card.threadAfter(from, showing));
                    for (int idle = 0; idle <= floats; idle++) {
                        bestIdles = turnedIdles;
                        bestSurplus = turnedSurplus;
                        if (mayIdle && idle < floats) {
                            int next = index(row + 1, from, showing, idle + 1);
                            offer(fewest[next] + 1, surplus[next]);
                        }
                        fewest[index(row, from, showing, idle)] = bestIdles;
                        surplus[index(row, from, showing, idle)] = bestSurplus;
                    }
                }
            }
        }

        private void offerTurned(Card card, int row, int from, int turn) {
            int to = roundFrom(from, turn);
            if (card.fits(row, card.threadAfter(to, turn))) {
                int next = index(row + 1, to, turn, 0);
                offer(fewest[next], turn == FORWARD ? surplus[next] << 1 : surplus[next] >>> 1);
            }
        }

        private void offer(int idles, long surpluses) {
            if (idles < bestIdles) {
                bestIdles = idles;
                bestSurplus = surpluses;
            } else if (idles == bestIdles) {
                bestSurplus |= surpluses;
            }
        }

        /** Both ways round may have the least size: then both are wanted, and the turns decide. */
        private void wantLeastTwist(Card card, long surpluses, int height) {
            int least = BEYOND_TWIST;
            wanted = 0;
            for (int more = -height; more <= height; more++) {
                long bit = 1L << (NO_MORE + more);
                int size = Math.abs(card.twist + card.sense() * more);
                if ((surpluses & bit) != 0 && size <= least) {
                    wanted = size < least ? bit : wanted | bit;
                    least = size;
                }
            }
        }

        private int firstTurn(Card card, int row) {
            int idles = fewest[index(row, turned, place, run)];
            for (int turn = FORWARD; turn <= BACK; turn++) {
                int to = roundFrom(turned, turn);
                int next = index(row + 1, to, turn, 0);
                boolean best = fewest[next] == idles && (surplus[next] & wantedBehind(turn)) != 0;
                if (best && card.fits(row, card.threadAfter(to, turn))) {
                    return turn;
                }
            }
            return IDLE;
        }

        private long wantedBehind(int turn) {
            return turn == FORWARD ? wanted >>> 1 : wanted << 1;
        }

        private void goOn(Card card, int turn) {
            if (turn == IDLE) {
                run = Math.min(run + 1, MOST_FLOATS);
            } else {
                turned = roundFrom(turned, turn);
                place = turn;
                run = 0;
                wanted = wantedBehind(turn);
                card.planTwist += card.twistOf(turn);
            }
        }
    }
}
