import java.util.ArrayList;
import java.util.HashMap;
import java.util.HashSet;
import java.util.List;
import java.util.Map;
import java.util.Set;
import java.util.TreeMap;

/**
 * The document's words, done in the slowest way: all that happened is kept as a list, and each
 * answer plays that list from its beginning. The class is held against it by random runs.
 */
final class PlainBand {
    private static final int UNKNOWN = -1, BAD = -2, STATE = -3, FULL = -4, NONE = -99;

    /** A card as it lies, with what it showed so far. */
    private static final class Lie {
        int[] at = {0, 1, 2, 3};
        int way;
        int twist;
        int flips;
        List<Integer> turns = new ArrayList<>();
        List<Integer> fronts = new ArrayList<>();
        List<Integer> backs = new ArrayList<>();
        List<Integer> slants = new ArrayList<>();

        void flip() {
            int[] to = new int[4];
            for (int i = 0; i < 4; i++) {
                to[(1 - i + 4) % 4] = at[i];
            }
            at = to;
            way = 1 - way;
            flips++;
        }

        void turn(int t) {
            int ahead = turns.size() - 1;
            turns.add(t);
            if (t == 2) {
                fronts.add(ahead < 0 ? at[0] : fronts.get(ahead));
                backs.add(ahead < 0 ? at[2] : backs.get(ahead));
                slants.add(ahead < 0 ? 0 : slants.get(ahead));
                return;
            }
            int[] to = new int[4];
            for (int i = 0; i < 4; i++) {
                to[(t == 0 ? i + 1 : i + 3) % 4] = at[i];
            }
            at = to;
            fronts.add(t == 0 ? at[0] : at[1]);
            backs.add(t == 0 ? at[2] : at[3]);
            boolean up = (t == 0 && way == 0) || (t == 1 && way == 1);
            slants.add(up ? 0 : 1);
            twist += up ? 1 : -1;
        }

        int idle() {
            int k = 0;
            for (int i = turns.size() - 1; i >= 0 && turns.get(i) == 2; i--) {
                k++;
            }
            return k;
        }
    }

    private int n;
    private int[][] colour;
    private int[] pack;
    private int[][] picture;
    private int height;
    private int floats;
    /** {0, card}: flipped; {1, card, way}: threaded; {2, turns ..}: a pick. */
    private List<int[]> events;

    PlainBand() {
        fresh(4);
    }

    private void fresh(int cards) {
        n = cards;
        colour = new int[n][];
        for (int c = 0; c < n; c++) {
            colour[c] = new int[] {0, 1, 2, 3};
        }
        pack = new int[n];
        picture = new int[30][n];
        for (int[] row : picture) {
            java.util.Arrays.fill(row, NONE);
        }
        height = 1;
        floats = 3;
        events = new ArrayList<>();
    }

    private Lie lie(int card) {
        Lie l = new Lie();
        for (int[] e : events) {
            if (e[0] == 0 && e[1] == card) {
                l.flip();
            } else if (e[0] == 1 && e[1] == card) {
                l.way = e[2];
            } else if (e[0] == 2) {
                l.turn(e[1 + card]);
            }
        }
        return l;
    }

    private int picks() {
        int k = 0;
        for (int[] e : events) {
            k += e[0] == 2 ? 1 : 0;
        }
        return k;
    }

    private boolean noCard(int c) {
        return c < 0 || c >= n;
    }

    private boolean noPick(int p) {
        return p < 0 || p >= picks();
    }

    int cards(int m) {
        if (m < 1 || m > 16) {
            return BAD;
        }
        int was = n;
        fresh(m);
        return was;
    }

    int thread(int c, int t, int col) {
        if (noCard(c) || t < 0 || t > 3) {
            return UNKNOWN;
        }
        if (col < 0 || col > 7) {
            return BAD;
        }
        if (picks() > 0) {
            return STATE;
        }
        int was = colour[c][t];
        colour[c][t] = col;
        return was;
    }

    int way(int c, int w) {
        if (noCard(c)) {
            return UNKNOWN;
        }
        if (w != 0 && w != 1) {
            return BAD;
        }
        if (picks() > 0) {
            return STATE;
        }
        int was = lie(c).way;
        events.add(new int[] {1, c, w});
        return was;
    }

    int flip(int c) {
        if (noCard(c)) {
            return UNKNOWN;
        }
        events.add(new int[] {0, c});
        return lie(c).way;
    }

    int pack(int c, int p) {
        if (noCard(c) || p < 0 || p > 3) {
            return UNKNOWN;
        }
        int was = pack[c];
        pack[c] = p;
        return was;
    }

    int about(int c, int what) {
        if (noCard(c)) {
            return UNKNOWN;
        }
        Lie l = lie(c);
        int[] all = {l.way, pack[c], l.twist + 100, l.idle(), l.flips};
        return what < 0 || what > 4 ? BAD : all[what];
    }

    int at(int c, int place) {
        if (noCard(c)) {
            return UNKNOWN;
        }
        return place < 0 || place > 3 ? BAD : lie(c).at[place];
    }

    int pick(int f, int b) {
        for (int i = 0; i < 32; i++) {
            boolean inF = (f >>> i & 1) == 1;
            boolean inB = (b >>> i & 1) == 1;
            if ((inF || inB) && i >= n || inF && inB) {
                return BAD;
            }
        }
        if (picks() == 60) {
            return FULL;
        }
        int[] e = new int[n + 1];
        e[0] = 2;
        for (int c = 0; c < n; c++) {
            e[1 + c] = (f >>> c & 1) == 1 ? 0 : (b >>> c & 1) == 1 ? 1 : 2;
        }
        events.add(e);
        return picks();
    }

    int packs(int one, int two, int three, int four) {
        int[] told = {one, two, three, four};
        for (int t : told) {
            if (t < 0 || t > 2) {
                return BAD;
            }
        }
        if (picks() == 60) {
            return FULL;
        }
        int[] e = new int[n + 1];
        e[0] = 2;
        for (int c = 0; c < n; c++) {
            e[1 + c] = told[pack[c]];
        }
        events.add(e);
        return picks();
    }

    int unweave() {
        if (picks() == 0) {
            return STATE;
        }
        while (events.get(events.size() - 1)[0] != 2) {
            events.remove(events.size() - 1);
        }
        events.remove(events.size() - 1);
        return picks();
    }

    int turn(int p, int c) {
        return noPick(p) || noCard(c) ? UNKNOWN : lie(c).turns.get(p);
    }

    int shown(int p, int c, boolean back) {
        if (noPick(p) || noCard(c)) {
            return UNKNOWN;
        }
        Lie l = lie(c);
        return back ? l.backs.get(p) : l.fronts.get(p);
    }

    int shows(int p, int c, boolean back) {
        int t = shown(p, c, back);
        return t == UNKNOWN ? UNKNOWN : colour[c][t];
    }

    int slant(int p, int c) {
        return noPick(p) || noCard(c) ? UNKNOWN : lie(c).slants.get(p);
    }

    int longest(int c) {
        if (noCard(c)) {
            return UNKNOWN;
        }
        StringBuilder marks = new StringBuilder();
        for (int t : lie(c).turns) {
            marks.append(t == 2 ? 'i' : ' ');
        }
        int most = 0;
        for (String run : marks.toString().split(" ")) {
            most = Math.max(most, run.length());
        }
        return most;
    }

    int many(int p, int col) {
        if (noPick(p)) {
            return UNKNOWN;
        }
        if (col < 0 || col > 7) {
            return BAD;
        }
        int k = 0;
        for (int x : face(false).get(p)) {
            k += x == col ? 1 : 0;
        }
        return k;
    }

    private List<List<Integer>> face(boolean back) {
        List<List<Integer>> rows = new ArrayList<>();
        for (int p = 0; p < picks(); p++) {
            rows.add(new ArrayList<>());
        }
        for (int c = 0; c < n; c++) {
            Lie l = lie(c);
            for (int p = 0; p < rows.size(); p++) {
                rows.get(p).add(colour[c][back ? l.backs.get(p) : l.fronts.get(p)]);
            }
        }
        return rows;
    }

    int repeat() {
        List<List<Integer>> f = face(false);
        int k = f.size();
        for (int p = 1; p <= k; p++) {
            if (f.subList(p, k).equals(f.subList(0, k - p))) {
                return p;
            }
        }
        return 0;
    }

    int is(int what) {
        if (what != 0 && what != 1) {
            return BAD;
        }
        if (what == 1) {
            return face(false).equals(face(true)) ? 1 : 0;
        }
        for (List<Integer> row : face(false)) {
            List<Integer> other = new ArrayList<>(row);
            java.util.Collections.reverse(other);
            if (!other.equals(row)) {
                return 0;
            }
        }
        return 1;
    }

    int rows() {
        Set<List<Integer>> s = new HashSet<>(face(false));
        return s.size();
    }

    int worst(boolean card) {
        int size = -1;
        int first = -1;
        for (int c = 0; c < n; c++) {
            int t = Math.abs(lie(c).twist);
            if (t > size) {
                size = t;
                first = c;
            }
        }
        return card ? first : size;
    }

    int going(int p, int limit) {
        if (p < 0 || p > 3) {
            return UNKNOWN;
        }
        if (limit < 0 || limit > 60) {
            return BAD;
        }
        int best = NONE;
        for (int g = -60; g <= 60; g++) {
            boolean fine = true;
            for (int c = 0; c < n; c++) {
                if (pack[c] == p) {
                    Lie l = lie(c);
                    for (int i = 0; i < Math.abs(g); i++) {
                        l.turn(g > 0 ? 0 : 1);
                    }
                    fine &= Math.abs(l.twist) <= limit;
                }
            }
            if (fine && (best == NONE || Math.abs(g) <= Math.abs(best))) {
                best = g;
            }
        }
        return best;
    }

    int evens(int limit) {
        if (limit < 0 || limit > 60) {
            return BAD;
        }
        int most = 0;
        for (int p = 0; p < 4; p++) {
            int g = going(p, limit);
            if (g == NONE) {
                return NONE;
            }
            most = Math.max(most, Math.abs(g));
        }
        return most;
    }

    int paint(int row, int c, int col) {
        if (noCard(c)) {
            return UNKNOWN;
        }
        if (row < 0 || row > 29 || col != NONE && (col < 0 || col > 7)) {
            return BAD;
        }
        int was = picture[row][c];
        picture[row][c] = col;
        return was;
    }

    int rule(int what, int v) {
        if (what == 0 && v >= 1 && v <= 30) {
            int was = height;
            height = v;
            return was;
        }
        if (what == 1 && v >= 0 && v <= 9) {
            int was = floats;
            floats = v;
            return was;
        }
        return BAD;
    }

    private int looked() {
        return Math.min(height, picks());
    }

    private boolean as(int row, int c, int thread) {
        return picture[row][c] == NONE || picture[row][c] == colour[c][thread];
    }

    int unlike() {
        int k = 0;
        for (int c = 0; c < n; c++) {
            Lie l = lie(c);
            for (int r = 0; r < looked(); r++) {
                k += as(r, c, l.fronts.get(r)) ? 0 : 1;
            }
        }
        return k;
    }

    /** The first of the best turnings as a text of turns, or null. */
    private String best(int c) {
        return height <= 6 ? bestOfAll(c) : bestByLies(c);
    }

    private String bestOfAll(int c) {
        String best = null;
        int bestIdle = 0;
        int bestTwist = 0;
        int all = (int) Math.pow(3, height);
        for (int code = 0; code < all; code++) {
            String turns = Integer.toString(code + all, 3).substring(1);
            if (turns.length() != height) {
                throw new IllegalStateException(turns);
            }
            Lie l = lie(c);
            boolean fine = true;
            int idle = 0;
            for (int r = 0; r < height && fine; r++) {
                l.turn(turns.charAt(r) - '0');
                boolean idles = turns.charAt(r) == '2';
                idle += idles ? 1 : 0;
                fine = as(r, c, l.fronts.get(l.fronts.size() - 1)) && !(idles && l.idle() > floats);
            }
            int twist = Math.abs(l.twist);
            if (fine && (best == null || idle < bestIdle || idle == bestIdle && twist < bestTwist)) {
                best = turns;
                bestIdle = idle;
                bestTwist = twist;
            }
        }
        return best;
    }

    /** Row by row, of all ways to a lie (with its idles and twist) the first by turns. */
    private String bestByLies(int c) {
        Lie start = lie(c);
        int front = start.fronts.isEmpty() ? start.at[0] : start.fronts.get(start.fronts.size() - 1);
        Map<List<Integer>, String> ways = new HashMap<>();
        ways.put(List.of(0, front, start.idle(), 0, start.twist), "");
        int sense = start.way == 0 ? 1 : -1;
        for (int r = 0; r < height; r++) {
            Map<List<Integer>, String> next = new HashMap<>();
            for (Map.Entry<List<Integer>, String> e : ways.entrySet()) {
                List<Integer> k = e.getKey();
                int on = k.get(0);
                for (int t = 0; t < 3; t++) {
                    int turned = (on + (t == 0 ? 1 : t == 1 ? 3 : 0)) % 4;
                    int shows = t == 2 ? k.get(1) : start.at[((t == 0 ? 0 : 1) - turned + 4) % 4];
                    int idle = t == 2 ? k.get(2) + 1 : 0;
                    int twist = k.get(4) + (t == 0 ? sense : t == 1 ? -sense : 0);
                    if (as(r, c, shows) && !(t == 2 && idle > floats)) {
                        List<Integer> to = List.of(turned, shows, idle, k.get(3) + (t == 2 ? 1 : 0), twist);
                        String way = e.getValue() + t;
                        if (!next.containsKey(to) || next.get(to).compareTo(way) > 0) {
                            next.put(to, way);
                        }
                    }
                }
            }
            ways = next;
        }
        TreeMap<Integer, String> ranked = new TreeMap<>();
        for (Map.Entry<List<Integer>, String> e : ways.entrySet()) {
            int rank = e.getKey().get(3) * 1000 + Math.abs(e.getKey().get(4));
            String other = ranked.get(rank);
            if (other == null || other.compareTo(e.getValue()) > 0) {
                ranked.put(rank, e.getValue());
            }
        }
        return ranked.isEmpty() ? null : ranked.firstEntry().getValue();
    }

    int idles(int c) {
        if (noCard(c)) {
            return UNKNOWN;
        }
        String b = best(c);
        return b == null ? NONE : b.length() - b.replace("2", "").length();
    }

    int turning(int c, int i) {
        if (noCard(c)) {
            return UNKNOWN;
        }
        if (i < 0 || i >= height) {
            return BAD;
        }
        String b = best(c);
        return b == null ? NONE : b.charAt(i) - '0';
    }

    int behind(int c) {
        if (noCard(c)) {
            return UNKNOWN;
        }
        String b = best(c);
        if (b == null) {
            return NONE;
        }
        Lie l = lie(c);
        for (char t : b.toCharArray()) {
            l.turn(t - '0');
        }
        return l.twist + 100;
    }

    int weave() {
        String[] all = new String[n];
        for (int c = 0; c < n; c++) {
            all[c] = best(c);
            if (all[c] == null) {
                return NONE;
            }
        }
        if (picks() + height > 60) {
            return FULL;
        }
        for (int r = 0; r < height; r++) {
            int[] e = new int[n + 1];
            e[0] = 2;
            for (int c = 0; c < n; c++) {
                e[1 + c] = all[c].charAt(r) - '0';
            }
            events.add(e);
        }
        return picks();
    }

    int quarrel(int c) {
        if (noCard(c)) {
            return UNKNOWN;
        }
        Lie l = lie(c);
        for (int r = 0; r < looked(); r++) {
            for (int a = 0; a < r; a++) {
                boolean like = l.fronts.get(a).equals(l.fronts.get(r));
                if (like && picture[a][c] != NONE && picture[r][c] != NONE && picture[a][c] != picture[r][c]) {
                    return r;
                }
            }
        }
        return NONE;
    }

    int threading(int c, int t) {
        if (noCard(c) || t < 0 || t > 3) {
            return UNKNOWN;
        }
        if (quarrel(c) != NONE) {
            return STATE;
        }
        Lie l = lie(c);
        int col = NONE;
        for (int r = 0; r < looked(); r++) {
            if (l.fronts.get(r) == t && picture[r][c] != NONE) {
                col = picture[r][c];
            }
        }
        return col;
    }

    private List<Integer> wrongTurns(int c) {
        List<Integer> told = lie(c).turns;
        List<Integer> found = new ArrayList<>();
        for (int p = 0; p < looked(); p++) {
            for (int t = 0; t < 3; t++) {
                Lie l = new Lie();
                boolean fine = t != told.get(p);
                for (int r = 0; r < looked(); r++) {
                    l.turn(r == p ? t : told.get(r));
                    fine &= as(r, c, l.fronts.get(r));
                }
                if (fine) {
                    found.add(10 * p + t);
                }
            }
        }
        return found;
    }

    int wrongs(int c) {
        if (noCard(c)) {
            return UNKNOWN;
        }
        return lie(c).flips > 0 ? STATE : wrongTurns(c).size();
    }

    int wrong(int c, int i) {
        if (noCard(c)) {
            return UNKNOWN;
        }
        if (lie(c).flips > 0) {
            return STATE;
        }
        List<Integer> all = wrongTurns(c);
        return i < 0 || i >= all.size() ? NONE : all.get(i);
    }

    int count(int what) {
        int z = 0;
        int painted = 0;
        Set<Integer> colours = new HashSet<>();
        for (int c = 0; c < n; c++) {
            z += lie(c).way;
            for (int t = 0; t < 4; t++) {
                colours.add(colour[c][t]);
            }
            for (int r = 0; r < 30; r++) {
                painted += picture[r][c] == NONE ? 0 : 1;
            }
        }
        int[] all = {n, picks(), painted, z, colours.size()};
        return what < 0 || what > 4 ? BAD : all[what];
    }
}
