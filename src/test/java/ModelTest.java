import java.util.Random;

/** Random runs of calls, each answer held against PlainBand. The seeds are fixed. */
public final class ModelTest {
    private static final int RUNS = 500, CALLS = 500;

    private final Random random;
    private final TurnedCards x = new TurnedCards();
    private final PlainBand y = new PlainBand();
    private final int run;
    private final int palette;
    private final int idleOften;
    private final int mostHeight;
    private int n = 4;

    private ModelTest(int run) {
        this.run = run;
        random = new Random(run);
        palette = 1 + random.nextInt(4);
        idleOften = random.nextInt(10);
        mostHeight = run % 25 == 0 ? 30 : 1 + random.nextInt(7);
    }

    public static void main(String[] args) {
        for (int run = 0; run < RUNS && Due.wrongs() < 20; run++) {
            new ModelTest(run).play();
        }
        Due.end();
    }

    private void play() {
        newBand();
        int kind = run % 5;
        for (int call = 0; call < CALLS && Due.wrongs() < 20; call++) {
            int dice = random.nextInt(100);
            if (dice < 25) {
                weaveSome(kind);
            } else if (dice < 40) {
                paintSome();
            } else if (dice < 43) {
                changeCards();
            } else {
                ask();
            }
            if (call % 100 == 99) {
                sayAll();
            }
        }
    }

    private void newBand() {
        int most = mostHeight > 7 ? 2 : 6;
        n = run % 50 == 7 ? 16 : 1 + random.nextInt(most);
        due("cards " + n, x.cards(n), y.cards(n));
        for (int c = 0; c < n; c++) {
            for (int t = 0; t < 4; t++) {
                int col = random.nextInt(palette);
                due("thread", x.thread(c, t, col), y.thread(c, t, col));
            }
        }
        int h = 1 + random.nextInt(mostHeight);
        due("rule", x.rule(0, h), y.rule(0, h));
    }

    private int odd(int least, int most) {
        if (random.nextInt(40) == 0) {
            int[] far = {least - 1, most + 1, Integer.MIN_VALUE, Integer.MAX_VALUE, -99};
            return far[random.nextInt(far.length)];
        }
        return least + random.nextInt(Math.max(1, most - least + 1));
    }

    private int card() {
        return odd(0, n - 1);
    }

    private int pickNumber() {
        return odd(0, x.count(1) - 1);
    }

    private void weaveSome(int kind) {
        int dice = random.nextInt(20);
        if (dice < 8) {
            int f = 0;
            int b = 0;
            for (int c = 0; c < n; c++) {
                if (random.nextInt(10) >= idleOften) {
                    int bit = 1 << c;
                    if (random.nextInt(3) > 0) {
                        f |= bit;
                    } else {
                        b |= bit;
                    }
                }
            }
            if (random.nextInt(40) == 0) {
                f |= 1 << random.nextInt(32);
            }
            due("pick " + f + " " + b, x.pick(f, b), y.pick(f, b));
        } else if (dice < 12) {
            int[] t = {odd(0, 2), odd(0, 2), odd(0, 2), odd(0, 2)};
            due("packs", x.packs(t[0], t[1], t[2], t[3]), y.packs(t[0], t[1], t[2], t[3]));
        } else if (dice < 14) {
            due("weave", x.weave(), y.weave());
        } else if (dice < 18) {
            due("unweave", x.unweave(), y.unweave());
        } else if (kind != 0) {
            int c = card();
            due("flip " + c, x.flip(c), y.flip(c));
        }
    }

    private void paintSome() {
        int dice = random.nextInt(20);
        if (dice < 5) {
            copyWoven();
        } else if (dice < 15) {
            int r = random.nextInt(3) == 0 ? odd(0, 29) : odd(0, mostHeight - 1);
            int c = card();
            int col = random.nextInt(3) == 0 ? -99 : odd(0, palette - 1);
            due("paint " + r + " " + c + " " + col, x.paint(r, c, col), y.paint(r, c, col));
        } else if (dice < 18) {
            int h = odd(1, mostHeight);
            due("rule 0 " + h, x.rule(0, h), y.rule(0, h));
        } else {
            int what = odd(0, 1);
            int v = what == 0 ? odd(1, mostHeight) : odd(0, 9);
            due("rule " + what + " " + v, x.rule(what, v), y.rule(what, v));
        }
    }

    /** So that pictures are often those of a band, with few turns of it otherwise. */
    private void copyWoven() {
        int c = random.nextInt(n);
        int rows = Math.min(x.count(1), mostHeight);
        for (int r = 0; r < rows; r++) {
            int col = x.shows(r, c, false);
            due("paint", x.paint(r, c, col), y.paint(r, c, col));
        }
    }

    private void changeCards() {
        int c = card();
        int dice = random.nextInt(100);
        if (dice < 40) {
            int p = odd(0, 3);
            due("pack " + c + " " + p, x.pack(c, p), y.pack(c, p));
        } else if (dice < 65) {
            int w = odd(0, 1);
            due("way " + c + " " + w, x.way(c, w), y.way(c, w));
        } else if (dice < 95) {
            int t = odd(0, 3);
            int col = odd(0, palette - 1);
            due("thread " + c + " " + t + " " + col, x.thread(c, t, col), y.thread(c, t, col));
        } else if (dice < 97) {
            newBand();
        } else {
            int bad = random.nextBoolean() ? 0 : 17;
            due("cards " + bad, x.cards(bad), y.cards(bad));
        }
    }

    private void ask() {
        int c = card();
        int p = pickNumber();
        boolean back = random.nextBoolean();
        int i;
        switch (random.nextInt(27)) {
            case 0: i = odd(0, 4); due("about " + c + " " + i, x.about(c, i), y.about(c, i)); break;
            case 1: i = odd(0, 3); due("at " + c + " " + i, x.at(c, i), y.at(c, i)); break;
            case 2: due("turn", x.turn(p, c), y.turn(p, c)); break;
            case 3: due("shows", x.shows(p, c, back), y.shows(p, c, back)); break;
            case 4: due("shown", x.shown(p, c, back), y.shown(p, c, back)); break;
            case 5: due("slant", x.slant(p, c), y.slant(p, c)); break;
            case 6: due("longest", x.longest(c), y.longest(c)); break;
            case 7: i = odd(0, 7); due("many", x.many(p, i), y.many(p, i)); break;
            case 8: due("repeat", x.repeat(), y.repeat()); break;
            case 9: i = odd(0, 1); due("is " + i, x.is(i), y.is(i)); break;
            case 10: due("rows", x.rows(), y.rows()); break;
            case 11: due("worst", x.worst(back), y.worst(back)); break;
            case 12: i = odd(0, 3); askGoing(i); break;
            case 13: i = limit(); due("evens " + i, x.evens(i), y.evens(i)); break;
            case 14: due("unlike", x.unlike(), y.unlike()); break;
            case 15: case 16: due("idles " + c, x.idles(c), y.idles(c)); break;
            case 17: case 18: i = odd(0, mostHeight - 1); due("turning " + c + " " + i, x.turning(c, i), y.turning(c, i)); break;
            case 19: case 20: due("behind " + c, x.behind(c), y.behind(c)); break;
            case 21: i = odd(0, 3); due("threading " + c + " " + i, x.threading(c, i), y.threading(c, i)); break;
            case 22: due("quarrel", x.quarrel(c), y.quarrel(c)); break;
            case 23: due("wrongs", x.wrongs(c), y.wrongs(c)); break;
            case 24: case 25: i = odd(0, 5); due("wrong " + c + " " + i, x.wrong(c, i), y.wrong(c, i)); break;
            default: i = odd(0, 4); due("count " + i, x.count(i), y.count(i)); break;
        }
    }

    private int limit() {
        return random.nextInt(4) == 0 ? odd(0, 60) : odd(0, 4);
    }

    private void askGoing(int pack) {
        int most = limit();
        due("going " + pack + " " + most, x.going(pack, most), y.going(pack, most));
    }

    /** All that may be asked of each card, so that nothing that went wrong stays hidden. */
    private void sayAll() {
        for (int c = 0; c < n; c++) {
            for (int i = 0; i <= 4; i++) {
                due("about", x.about(c, i), y.about(c, i));
                due("at", x.at(c, i), y.at(c, i));
            }
            for (int p = 0; p < x.count(1); p++) {
                due("turn", x.turn(p, c), y.turn(p, c));
                due("shown", x.shown(p, c, false), y.shown(p, c, false));
                due("shown back", x.shown(p, c, true), y.shown(p, c, true));
                due("slant", x.slant(p, c), y.slant(p, c));
            }
        }
    }

    private void due(String call, int got, int want) {
        Due.is("run " + run + ": " + call, got, want);
    }
}
