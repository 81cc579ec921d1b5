/** Patterns that cut a plate to wanted pieces; ../shared/DOC.md tells the promises. */
public final class SlabPatterns {
    private static final int MOST_PLACE = 200;
    private static final int MOST_KERF = 20;
    private static final int MOST_PIECES = 5;
    private static final int MOST_WORTH = 100000;
    private static final int MOST_MANY = 20;
    private static final int MOST_STAGES = 2;
    private static final int MOST_KNIVES = 20;
    private static final int MOST_BARS = 4;
    private static final int MOST_NODES = 100000;
    private static final int FIRST_LEAST = 10;
    /** A piece is laid as it is or turned. */
    private static final int MOST_KINDS = 2 * MOST_PIECES;
    /** Every strip uses up a copy at least, so all copies of all pieces are the most strips. */
    private static final int MOST_STRIPS = MOST_PIECES * MOST_MANY;
    private static final int NONE = -1;

    private final Slab slab;
    private final Wanted wanted;
    private final Kinds kinds;
    private final Search search;
    private final Strips pattern;
    private boolean hasPattern;
    private boolean wasProved;

    public SlabPatterns() {
        slab = new Slab();
        wanted = new Wanted();
        kinds = new Kinds();
        search = new Search();
        pattern = new Strips();
        forgetAll();
    }

    public void plate(int length, int width, int kerf) throws IllegalArgumentException {
        if (isOutside(length, 1, MOST_PLACE) || isOutside(width, 1, MOST_PLACE)
                || isOutside(kerf, 0, MOST_KERF)) {
            throw new IllegalArgumentException("no such plate");
        }
        slab.length = length;
        slab.width = width;
        slab.kerf = kerf;
        forgetPattern();
    }

    public int want(int low, int high, int across, int worth, int many)
            throws IllegalArgumentException, UnsupportedOperationException {
        if (isOutside(low, 1, MOST_PLACE) || isOutside(high, low, MOST_PLACE)
                || isOutside(across, 1, MOST_PLACE) || isOutside(worth, 0, MOST_WORTH)
                || isOutside(many, 0, MOST_MANY)) {
            throw new IllegalArgumentException("no such piece can be wanted");
        }
        if (wanted.isFull()) {
            throw new UnsupportedOperationException("no room for one more piece");
        }
        return wanted.add(low, high, across, worth, many);
    }

    public void turn(int piece, boolean may) throws IndexOutOfBoundsException {
        if (!wanted.has(piece)) {
            throw new IndexOutOfBoundsException("no such piece");
        }
        wanted.mayTurn[piece] = may;
    }

    public void rules(int stages, int knives, int a, int b, int least)
            throws IllegalArgumentException {
        if (isOutside(stages, 1, MOST_STAGES) || isOutside(knives, 0, MOST_KNIVES)
                || isOutside(a, 0, MOST_PLACE) || isOutside(b, 0, MOST_PLACE)
                || isOutside(least, 0, MOST_PLACE)) {
            throw new IllegalArgumentException("no such rules");
        }
        slab.stages = stages;
        slab.knives = knives;
        slab.frontTrim = a;
        slab.endTrim = b;
        slab.least = least;
    }

    public int bar(int from, int to)
            throws IllegalArgumentException, UnsupportedOperationException {
        if (isOutside(from, 0, MOST_PLACE) || isOutside(to, 0, MOST_PLACE) || to <= from) {
            throw new IllegalArgumentException("no such stretch");
        }
        if (slab.bars >= MOST_BARS) {
            throw new UnsupportedOperationException("no room for one more bar");
        }
        return slab.addBar(from, to);
    }

    public int run(int nodes) throws IllegalArgumentException {
        if (isOutside(nodes, 0, MOST_NODES)) {
            throw new IllegalArgumentException("no such number of nodes");
        }
        kinds.list(slab, wanted);
        wasProved = search.explore(slab, kinds, pattern, nodes);
        pattern.stretch(slab, wanted);
        hasPattern = true;
        return search.bestWorth;
    }

    public boolean proved() throws IllegalStateException {
        requirePattern();
        return wasProved;
    }

    public int strips() throws IllegalStateException {
        requirePattern();
        return pattern.count;
    }

    public int strip(int k, int what)
            throws IndexOutOfBoundsException, IllegalStateException, IllegalArgumentException {
        if (isOutside(what, 0, 4)) {
            throw new IndexOutOfBoundsException("no such what");
        }
        requirePattern();
        if (!pattern.has(k)) {
            throw new IllegalArgumentException("no such strip");
        }
        switch (what) {
            case 0:
                return pattern.piece[k];
            case 1:
                return pattern.turned[k] ? 1 : 0;
            case 2:
                return pattern.begin[k];
            case 3:
                return pattern.length[k];
            default:
                return pattern.copiesAcross[k];
        }
    }

    public int copies(int piece) throws IndexOutOfBoundsException, IllegalStateException {
        if (!wanted.has(piece)) {
            throw new IndexOutOfBoundsException("no such piece");
        }
        requirePattern();
        return pattern.copiesOf(piece, pattern.count);
    }

    public int rest(int what) throws IndexOutOfBoundsException, IllegalStateException {
        if (isOutside(what, 0, 1)) {
            throw new IndexOutOfBoundsException("no such what");
        }
        requirePattern();
        int left = restLength();
        if (what == 0) {
            return left;
        }
        return left >= slab.least ? 1 : 0;
    }

    public int check() throws IllegalStateException {
        requirePattern();
        for (int k = 0; k < pattern.count; k++) {
            if (!pattern.isRight(k, slab, wanted)) {
                return 1 + k;
            }
        }
        return 0;
    }

    public void clear() {
        forgetAll();
    }

    private static boolean isOutside(int value, int least, int most) {
        return value < least || value > most;
    }

    private void requirePattern() throws IllegalStateException {
        if (!hasPattern) {
            throw new IllegalStateException("there is no pattern");
        }
    }

    private int restLength() {
        int from = slab.frontTrim;
        if (pattern.count > 0) {
            from = pattern.endOf(pattern.count - 1) + slab.kerf;
        }
        return Math.max(0, slab.lastEnd() - from);
    }

    private void forgetPattern() {
        hasPattern = false;
        wasProved = false;
        pattern.count = 0;
    }

    private void forgetAll() {
        slab.reset();
        wanted.count = 0;
        forgetPattern();
    }

    /** The plate with its rules and bars. */
    private static final class Slab {
        private int length;
        private int width;
        private int kerf;
        private int stages;
        private int knives;
        private int frontTrim;
        private int endTrim;
        private int least;
        private int bars;
        /** A table of all places, since the search asks for them at every node. */
        private final boolean[] barred = new boolean[MOST_PLACE + 1];

        private void reset() {
            length = 1;
            width = 1;
            kerf = 0;
            stages = MOST_STAGES;
            knives = MOST_KNIVES;
            frontTrim = 0;
            endTrim = 0;
            least = FIRST_LEAST;
            bars = 0;
            for (int place = 0; place < barred.length; place++) {
                barred[place] = false;
            }
        }

        /** The ends of a bar stay free: a strip may begin or end there. */
        private int addBar(int from, int to) {
            for (int place = Math.max(0, from + 1); place < to && place < barred.length; place++) {
                barred[place] = true;
            }
            bars++;
            return bars;
        }

        private boolean isBarred(int place) {
            return place >= 0 && place < barred.length && barred[place];
        }

        private int lastEnd() {
            return length - endTrim;
        }

        private int mostAcross(int size) {
            int pitch = size + kerf;
            if (pitch <= 0) {
                return 0;
            }
            // The last copy needs no kerf behind it, so the width counts as one kerf wider.
            int fit = (width + kerf) / pitch;
            int allowed = stages == 1 ? 1 : knives + 1;
            return Math.min(fit, allowed);
        }
    }

    /** The wanted pieces, row by row. */
    private static final class Wanted {
        private int count;
        private final int[] low = new int[MOST_PIECES];
        private final int[] high = new int[MOST_PIECES];
        private final int[] across = new int[MOST_PIECES];
        private final int[] worth = new int[MOST_PIECES];
        private final int[] many = new int[MOST_PIECES];
        private final boolean[] mayTurn = new boolean[MOST_PIECES];

        private boolean has(int piece) {
            return piece >= 0 && piece < count && piece < MOST_PIECES;
        }

        private boolean isFull() {
            return isOutside(count, 0, MOST_PIECES - 1);
        }

        private int add(int newLow, int newHigh, int newAcross, int newWorth, int newMany) {
            if (isFull()) {
                return NONE;
            }
            int piece = count;
            low[piece] = newLow;
            high[piece] = newHigh;
            across[piece] = newAcross;
            worth[piece] = newWorth;
            many[piece] = newMany;
            mayTurn[piece] = false;
            count++;
            return piece;
        }

        private int lengthOf(int piece, boolean turned) {
            if (!has(piece)) {
                return 0;
            }
            return turned ? across[piece] : low[piece];
        }

        private int acrossOf(int piece, boolean turned) {
            if (!has(piece)) {
                return 0;
            }
            return turned ? low[piece] : across[piece];
        }

        private int longestOf(int piece, boolean turned) {
            if (!has(piece)) {
                return 0;
            }
            return turned ? across[piece] : high[piece];
        }

        private int manyOf(int piece) {
            return has(piece) ? many[piece] : 0;
        }
    }

    /** The kinds of strips that a search tries, in the order in which it tries them. */
    private static final class Kinds {
        private int count;
        private final int[] piece = new int[MOST_KINDS];
        private final boolean[] turned = new boolean[MOST_KINDS];
        private final int[] length = new int[MOST_KINDS];
        private final int[] most = new int[MOST_KINDS];
        private final int[] worth = new int[MOST_KINDS];
        private final int[] many = new int[MOST_PIECES];

        private void list(Slab slab, Wanted wanted) {
            count = 0;
            for (int p = 0; p < MOST_PIECES; p++) {
                many[p] = wanted.manyOf(p);
                if (wanted.has(p)) {
                    add(slab, wanted, p, false);
                    if (wanted.mayTurn[p]) {
                        add(slab, wanted, p, true);
                    }
                }
            }
        }

        private void add(Slab slab, Wanted wanted, int newPiece, boolean isTurned) {
            int fit = slab.mostAcross(wanted.acrossOf(newPiece, isTurned));
            // A kind that the width never holds is no strip that can be tried.
            if (fit < 1 || isOutside(count, 0, MOST_KINDS - 1) || !wanted.has(newPiece)) {
                return;
            }
            piece[count] = newPiece;
            turned[count] = isTurned;
            length[count] = wanted.lengthOf(newPiece, isTurned);
            most[count] = fit;
            worth[count] = wanted.worth[newPiece];
            count++;
        }

        private boolean has(int kind) {
            return kind >= 0 && kind < count && kind < MOST_KINDS;
        }
    }

    /** A row of strips, from the front on. */
    private static final class Strips {
        private int count;
        private final int[] piece = new int[MOST_STRIPS];
        private final boolean[] turned = new boolean[MOST_STRIPS];
        private final int[] begin = new int[MOST_STRIPS];
        private final int[] length = new int[MOST_STRIPS];
        private final int[] copiesAcross = new int[MOST_STRIPS];

        private boolean has(int k) {
            return k >= 0 && k < count && k < MOST_STRIPS;
        }

        private int endOf(int k) {
            return has(k) ? begin[k] + length[k] : 0;
        }

        private int copiesOf(int wantedPiece, int amongFirst) {
            int sum = 0;
            for (int k = 0; k < amongFirst && k < MOST_STRIPS; k++) {
                if (piece[k] == wantedPiece) {
                    sum += copiesAcross[k];
                }
            }
            return sum;
        }

        private void copyFrom(Strips other) {
            count = Math.max(0, Math.min(other.count, MOST_STRIPS));
            for (int k = 0; k < count; k++) {
                piece[k] = other.piece[k];
                turned[k] = other.turned[k];
                begin[k] = other.begin[k];
                length[k] = other.length[k];
                copiesAcross[k] = other.copiesAcross[k];
            }
        }

        private boolean isRight(int k, Slab slab, Wanted wanted) {
            if (!has(k)) {
                return false;
            }
            boolean inPlate = begin[k] >= slab.frontTrim && endOf(k) <= slab.lastEnd();
            boolean offBars = !slab.isBarred(begin[k]) && !slab.isBarred(endOf(k));
            return inPlate && offBars
                    && copiesOf(piece[k], k + 1) <= wanted.manyOf(piece[k])
                    && copiesAcross[k] <= slab.mostAcross(wanted.acrossOf(piece[k], turned[k]));
        }

        private void stretch(Slab slab, Wanted wanted) {
            for (int k = 0; k < count && k < MOST_STRIPS; k++) {
                int longest = wanted.longestOf(piece[k], turned[k]);
                int by = growthOf(k, longest - length[k], slab);
                length[k] += by;
                moveBehind(k, by);
            }
        }

        private int growthOf(int k, int wish, Slab slab) {
            int room = slab.lastEnd() - endOf(count - 1);
            for (int by = Math.min(wish, room); by > 0; by--) {
                if (mayGrow(k, by, slab)) {
                    return by;
                }
            }
            return 0;
        }

        private boolean mayGrow(int k, int by, Slab slab) {
            if (slab.isBarred(endOf(k) + by)) {
                return false;
            }
            for (int behind = k + 1; behind < count && behind < MOST_STRIPS; behind++) {
                if (slab.isBarred(begin[behind] + by) || slab.isBarred(endOf(behind) + by)) {
                    return false;
                }
            }
            return true;
        }

        private void moveBehind(int k, int by) {
            for (int behind = k + 1; behind < count && behind < MOST_STRIPS; behind++) {
                begin[behind] += by;
            }
        }
    }

    /** The search: it lays strips one behind the other and lifts them again. */
    private static final class Search {
        private int bestWorth;
        private final Strips trial = new Strips();
        private final int[] left = new int[MOST_PIECES];
        /** These rows have, for each number of strips laid, what comes next and what is there. */
        private final int[] nextKind = new int[MOST_STRIPS + 1];
        private final int[] nextBegin = new int[MOST_STRIPS + 1];
        private final int[] worthLaid = new int[MOST_STRIPS + 1];

        /** Leaves the best pattern in best, and tells whether it is proved. */
        private boolean explore(Slab slab, Kinds kinds, Strips best, int nodes) {
            start(slab, kinds, best);
            int nodesLeft = nodes;
            // Each round lays a strip (at most nodes of them) or lifts one that was laid.
            for (int round = 0; round <= 2 * nodes + 1; round++) {
                int kind = findKind(slab, kinds);
                if (kind == NONE) {
                    if (trial.count <= 0) {
                        return true;
                    }
                    lift();
                } else if (nodesLeft <= 0) {
                    return false;
                } else {
                    nodesLeft--;
                    lay(kind, slab, kinds);
                    keepIfBetter(best);
                }
            }
            return false;
        }

        private void start(Slab slab, Kinds kinds, Strips best) {
            for (int p = 0; p < MOST_PIECES; p++) {
                left[p] = kinds.many[p];
            }
            trial.count = 0;
            nextKind[0] = 0;
            nextBegin[0] = slab.frontTrim;
            worthLaid[0] = 0;
            best.count = 0;
            bestWorth = 0;
        }

        private int findKind(Slab slab, Kinds kinds) {
            int k = trial.count;
            if (isOutside(k, 0, MOST_STRIPS - 1) || slab.isBarred(nextBegin[k])) {
                return NONE;
            }
            int from = Math.max(0, nextKind[k]);
            for (int kind = from; kind < kinds.count && kind < MOST_KINDS; kind++) {
                int end = nextBegin[k] + kinds.length[kind];
                if (end <= slab.lastEnd() && !slab.isBarred(end) && leftOf(kinds.piece[kind]) > 0) {
                    return kind;
                }
            }
            return NONE;
        }

        private int leftOf(int piece) {
            return isOutside(piece, 0, MOST_PIECES - 1) ? 0 : left[piece];
        }

        private void use(int piece, int number) {
            if (!isOutside(piece, 0, MOST_PIECES - 1)) {
                left[piece] -= number;
            }
        }

        private void lay(int kind, Slab slab, Kinds kinds) {
            int k = trial.count;
            if (isOutside(k, 0, MOST_STRIPS - 1) || !kinds.has(kind)) {
                return;
            }
            int piece = kinds.piece[kind];
            int number = Math.min(kinds.most[kind], leftOf(piece));
            trial.piece[k] = piece;
            trial.turned[k] = kinds.turned[kind];
            trial.begin[k] = nextBegin[k];
            trial.length[k] = kinds.length[kind];
            trial.copiesAcross[k] = number;
            trial.count = k + 1;
            use(piece, number);
            nextKind[k] = kind + 1;
            nextKind[k + 1] = 0;
            nextBegin[k + 1] = nextBegin[k] + kinds.length[kind] + slab.kerf;
            worthLaid[k + 1] = worthLaid[k] + number * kinds.worth[kind];
        }

        private void lift() {
            int k = trial.count - 1;
            if (isOutside(k, 0, MOST_STRIPS - 1)) {
                return;
            }
            trial.count = k;
            use(trial.piece[k], -trial.copiesAcross[k]);
        }

        /** Of patterns as good the one found first stays: the search goes in their order. */
        private void keepIfBetter(Strips best) {
            int k = trial.count;
            if (isOutside(k, 0, MOST_STRIPS)) {
                return;
            }
            int worth = worthLaid[k];
            if (worth > bestWorth || (worth == bestWorth && k < best.count)) {
                bestWorth = worth;
                best.copyFrom(trial);
            }
        }
    }
}
