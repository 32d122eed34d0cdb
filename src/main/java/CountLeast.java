/** Bones counted: pieces of kinds, which of them cannot be of one animal, and the least number of animals. */
public final class CountLeast {
    public static final int NONE = -1;

    private static final int KINDS = 6;
    private static final int PIECES_OF_KIND = 12;
    private static final int PARTS = 16;
    private static final int WEARS = 16;
    private static final int LAST_MONTH = 999;
    private static final int GREATEST_SIZE = 30000;
    private static final int GREATEST_WEIGHT = 1000000;
    private static final int GREATEST_FACTOR = 10000;

    private static final int LEFT = 0;
    private static final int RIGHT = 1;
    private static final int NO_SIDE = 2;
    private static final int UNSURE = 3;

    private static final int CAN_BE_ONE = 0;
    private static final int BY_SIDES = 1;
    private static final int BY_AGES = 2;
    private static final int BY_SIZES = 3;

    private static final int ABOVE = 0;
    private static final int BELOW = 1;

    // Euclid's steps on two ints are fewer than fifty.
    private static final int DIVISOR_STEPS = 64;

    private final Kind[] kinds = new Kind[KINDS];
    private final Piece[] found = new Piece[KINDS * PIECES_OF_KIND];
    private int foundCount = 0;

    public CountLeast() {
        for (int i = 0; i < KINDS; i++) {
            kinds[i] = new Kind();
        }
    }

    public int piece(int kind, int part, int side, int size)
            throws IndexOutOfBoundsException, IllegalArgumentException, IllegalStateException {
        Kind owner = kindAt(kind);
        checkIndex(part, PARTS);
        checkRange(side, LEFT, UNSURE);
        checkRange(size, 0, GREATEST_SIZE);
        if (owner.count >= PIECES_OF_KIND || foundCount >= found.length) {
            throw new IllegalStateException("the kind has twelve pieces");
        }
        Piece made = new Piece(owner, foundCount, part, side, size);
        owner.take(made);
        found[foundCount] = made;
        foundCount++;
        return made.number;
    }

    public boolean single(int kind, int part, boolean is) throws IndexOutOfBoundsException {
        Kind owner = kindAt(kind);
        checkIndex(part, PARTS);
        boolean changed = owner.oneAlone[part] != is;
        owner.oneAlone[part] = is;
        owner.stale = true;
        return changed;
    }

    public int bound(int kind, int tenths) throws IndexOutOfBoundsException, IllegalArgumentException {
        Kind owner = kindAt(kind);
        checkRange(tenths, 0, GREATEST_SIZE);
        int before = owner.sizeBound;
        owner.sizeBound = tenths;
        owner.stale = true;
        return before;
    }

    public void table(int kind, int wear, int from, int to)
            throws IndexOutOfBoundsException, IllegalArgumentException {
        Kind owner = kindAt(kind);
        checkIndex(wear, WEARS);
        checkRange(to, 0, LAST_MONTH);
        checkRange(from, 0, to);
        owner.wearFrom[wear] = from;
        owner.wearTo[wear] = to;
    }

    public void worn(int piece, int wear) throws IndexOutOfBoundsException {
        Piece one = pieceAt(piece);
        checkIndex(wear, WEARS);
        one.from = one.kind.wearFrom[wear];
        one.to = one.kind.wearTo[wear];
        one.kind.stale = true;
    }

    public int aged(int piece, int end) throws IndexOutOfBoundsException {
        Piece one = pieceAt(piece);
        checkIndex(end, 2);
        return end == 0 ? one.from : one.to;
    }

    public boolean unsure(int piece) throws IndexOutOfBoundsException {
        Piece one = pieceAt(piece);
        boolean changed = one.side != UNSURE;
        one.side = UNSURE;
        one.kind.stale = true;
        return changed;
    }

    public int clash(int a, int b) throws IndexOutOfBoundsException, IllegalArgumentException {
        Piece one = pieceAt(a);
        Piece other = pieceAt(b);
        if (a == b || one.kind != other.kind) {
            throw new IllegalArgumentException("not two pieces of one kind");
        }
        return one.kind.ruleBetween(one, other);
    }

    public int least(int kind) throws IndexOutOfBoundsException {
        return kindAt(kind).parted().fewest;
    }

    public int animal(int piece) throws IndexOutOfBoundsException {
        Piece one = pieceAt(piece);
        return one.kind.parted().setOf(one.place);
    }

    public int clashing(int kind, int k) throws IndexOutOfBoundsException {
        Kind owner = kindAt(kind);
        if (k < 0) {
            throw new IndexOutOfBoundsException("no such place");
        }
        return owner.numberAt(owner.parted().placeOfFoe(k));
    }

    public int weight(int piece, int grams) throws IndexOutOfBoundsException, IllegalArgumentException {
        Piece one = pieceAt(piece);
        checkRange(grams, 0, GREATEST_WEIGHT);
        int before = one.grams;
        one.grams = grams;
        return before;
    }

    public int sum(int kind) throws IndexOutOfBoundsException {
        return kindAt(kind).gramsTogether();
    }

    public int share(int kind, int part) throws IndexOutOfBoundsException {
        Kind owner = kindAt(kind);
        checkIndex(part, 2);
        int all = 0;
        for (int i = 0; i < KINDS; i++) {
            all += kinds[i].parted().fewest;
        }
        return lessened(owner.parted().fewest, all, part);
    }

    public void sieve(int kind, int above, int below) throws IndexOutOfBoundsException, IllegalArgumentException {
        Kind owner = kindAt(kind);
        checkRange(above, 1, GREATEST_FACTOR);
        checkRange(below, 1, above);
        owner.factorAbove = above;
        owner.factorBelow = below;
    }

    public int scaled(int kind, int part) throws IndexOutOfBoundsException {
        Kind owner = kindAt(kind);
        checkIndex(part, 3);
        int above = owner.count * owner.factorAbove;
        int whole = quotient(above, owner.factorBelow);
        if (part == 0) {
            return whole;
        }
        int over = above - whole * owner.factorBelow;
        return lessened(over, owner.factorBelow, part == 1 ? ABOVE : BELOW);
    }

    public int diverse(int part) throws IndexOutOfBoundsException {
        checkIndex(part, 2);
        int alike = 0;
        for (int i = 0; i < KINDS; i++) {
            alike += orderedPairs(kinds[i].count);
        }
        int all = orderedPairs(foundCount);
        return lessened(all - alike, all, part);
    }

    public int pieces(int kind) throws IndexOutOfBoundsException {
        return kind == NONE ? foundCount : kindAt(kind).count;
    }

    private Kind kindAt(int kind) {
        if (kind < 0 || kind >= KINDS) {
            throw new IndexOutOfBoundsException("no such kind");
        }
        return kinds[kind];
    }

    private Piece pieceAt(int number) {
        if (number < 0 || number >= foundCount) {
            throw new IndexOutOfBoundsException("no such piece");
        }
        return found[number];
    }

    private static void checkIndex(int index, int count) {
        if (index < 0 || index >= count) {
            throw new IndexOutOfBoundsException("no such part, wear or place");
        }
    }

    private static void checkRange(int value, int lowest, int highest) {
        if (value < lowest || value > highest) {
            throw new IllegalArgumentException("out of its range");
        }
    }

    private static int orderedPairs(int count) {
        return count * (count - 1);
    }

    private static int quotient(int above, int below) {
        return below == 0 ? 0 : above / below;
    }

    /** Above or below of the fraction in lowest terms; a fraction below which nothing stands counts as 0 / 1. */
    private static int lessened(int above, int below, int end) {
        if (below == 0) {
            return end == ABOVE ? 0 : 1;
        }
        return quotient(end == ABOVE ? above : below, commonDivisor(above, below));
    }

    private static int commonDivisor(int a, int b) {
        int greater = a;
        int lesser = b;
        for (int step = 0; step < DIVISOR_STEPS && lesser != 0; step++) {
            int over = greater % lesser;
            greater = lesser;
            lesser = over;
        }
        return greater;
    }

    private static final class Piece {
        final Kind kind;
        final int number;
        final int place;
        final int part;
        final int size;
        int side;
        int from = 0;
        int to = LAST_MONTH;
        int grams = 0;

        Piece(Kind kind, int number, int part, int side, int size) {
            this.kind = kind;
            this.number = number;
            this.place = kind.count;
            this.part = part;
            this.side = side;
            this.size = size;
        }
    }

    private static final class Kind {
        final boolean[] oneAlone = new boolean[PARTS];
        final int[] wearFrom = new int[WEARS];
        final int[] wearTo = new int[WEARS];
        int sizeBound = GREATEST_SIZE;
        int factorAbove = 1;
        int factorBelow = 1;
        int count = 0;
        // The parting is searched again only when it is asked for and something it hangs on was touched.
        boolean stale = false;
        private final Piece[] own = new Piece[PIECES_OF_KIND];
        private final Parting parting = new Parting();

        Kind() {
            for (int i = 0; i < WEARS; i++) {
                wearTo[i] = LAST_MONTH;
            }
        }

        void take(Piece one) {
            if (count < own.length) {
                own[count] = one;
                count++;
                stale = true;
            }
        }

        int numberAt(int place) {
            return place < 0 || place >= count ? NONE : own[place].number;
        }

        int gramsTogether() {
            int together = 0;
            for (int i = 0; i < count; i++) {
                together += own[i].grams;
            }
            return together;
        }

        int ruleBetween(Piece a, Piece b) {
            if (a.part == b.part && sidesClash(a, b)) {
                return BY_SIDES;
            }
            if (a.from > b.to || b.from > a.to) {
                return BY_AGES;
            }
            if (a.part == b.part && sizesClash(a, b)) {
                return BY_SIZES;
            }
            return CAN_BE_ONE;
        }

        private boolean sidesClash(Piece a, Piece b) {
            if (a.side != b.side) {
                return false;
            }
            return a.side == LEFT || a.side == RIGHT || a.side == NO_SIDE && oneAlone[a.part];
        }

        private boolean sizesClash(Piece a, Piece b) {
            return a.size != 0 && b.size != 0 && Math.abs(a.size - b.size) > sizeBound;
        }

        Parting parted() {
            if (stale) {
                parting.begin(count);
                markFoes();
                parting.search();
                stale = false;
            }
            return parting;
        }

        private void markFoes() {
            for (int i = 0; i < count; i++) {
                for (int j = 0; j < i; j++) {
                    if (ruleBetween(own[i], own[j]) != CAN_BE_ONE) {
                        parting.setApart(i, j);
                    }
                }
            }
        }
    }

    /** Places 0, 1, .. of which some are foes: the greatest set of foes, and the fewest sets without foes. */
    private static final class Parting {
        int fewest = 0;
        private int count = 0;
        private int greatest = 0;
        private final int[] foesOf = new int[PIECES_OF_KIND];
        private final int[] setOf = new int[PIECES_OF_KIND];
        private final int[] barred = new int[PIECES_OF_KIND];

        void begin(int places) {
            count = Math.max(0, Math.min(places, PIECES_OF_KIND));
            for (int i = 0; i < PIECES_OF_KIND; i++) {
                foesOf[i] = 0;
                barred[i] = 0;
            }
        }

        void setApart(int a, int b) {
            if (a >= 0 && a < count && b >= 0 && b < count) {
                foesOf[a] |= 1 << b;
                foesOf[b] |= 1 << a;
            }
        }

        void search() {
            greatest = 0;
            growFoes(0, 0, (1 << count) - 1);
            // Each foe of the greatest set needs a set of its own, so fewer sets than that cannot do.
            fewest = Integer.bitCount(greatest);
            for (int tries = 0; tries < count && !fill(0, 0); tries++) {
                fewest++;
            }
        }

        int setOf(int place) {
            return place < 0 || place >= count ? NONE : setOf[place];
        }

        int placeOfFoe(int k) {
            int passed = 0;
            for (int i = 0; i < count; i++) {
                if ((greatest >> i & 1) != 0) {
                    if (passed == k) {
                        return i;
                    }
                    passed++;
                }
            }
            return NONE;
        }

        /** Tries sets in the order that settles ties, so that only a greater one takes the first one's stead. */
        private void growFoes(int size, int chosen, int open) {
            if (size > Integer.bitCount(greatest)) {
                greatest = chosen;
            }
            int left = open;
            for (int i = 0; i < count && size + Integer.bitCount(left) > Integer.bitCount(greatest); i++) {
                int bit = 1 << i;
                if ((left & bit) != 0 && size < count) {
                    left &= ~bit;
                    growFoes(size + 1, chosen | bit, left & foesOf[i]);
                }
            }
        }

        /** Tries lower numbers first, so that the first way found is the one that is asked for. */
        private boolean fill(int place, int used) {
            if (place < 0 || place >= count) {
                return true;
            }
            int bit = 1 << place;
            int laterFoes = foesOf[place] & -bit;
            int tried = Math.min(used + 1, Math.min(fewest, PIECES_OF_KIND));
            for (int set = 0; set < tried; set++) {
                int before = barred[set];
                if ((before & bit) == 0) {
                    barred[set] = before | foesOf[place];
                    setOf[place] = set;
                    if (fill(place + 1, Math.max(used, set + 1))) {
                        return true;
                    }
                    barred[set] = before;
                    // It stood in no later one's way here, so the rest fails wherever else it goes.
                    if ((laterFoes & ~before) == 0) {
                        return false;
                    }
                }
            }
            return false;
        }
    }
}
