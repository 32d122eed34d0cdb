import java.util.ArrayList;
import java.util.HashSet;
import java.util.List;
import java.util.Set;

/** The document once more, as plainly as may be and without care for speed: what the class is held against. */
final class Model {
    private static final class Bone {
        int kind;
        int part;
        int side;
        int size;
        int from = 0;
        int to = 999;
        int grams = 0;
    }

    private final List<Bone> bones = new ArrayList<>();
    private final Set<String> alone = new HashSet<>();
    private final int[] bounds = {30000, 30000, 30000, 30000, 30000, 30000};
    private final int[][][] tables = new int[6][16][];
    private final int[][] factors = new int[6][];

    Model() {
        for (int kind = 0; kind < 6; kind++) {
            factors[kind] = new int[] {1, 1};
            for (int wear = 0; wear < 16; wear++) {
                tables[kind][wear] = new int[] {0, 999};
            }
        }
    }

    private static void need(boolean good, RuntimeException otherwise) {
        if (!good) {
            throw otherwise;
        }
    }

    private static void index(boolean good) {
        need(good, new IndexOutOfBoundsException());
    }

    private static void argument(boolean good) {
        need(good, new IllegalArgumentException());
    }

    private static void kind(int kind) {
        index(0 <= kind && kind <= 5);
    }

    private Bone bone(int piece) {
        index(0 <= piece && piece < bones.size());
        return bones.get(piece);
    }

    Object piece(int kind, int part, int side, int size) {
        kind(kind);
        index(0 <= part && part <= 15);
        argument(0 <= side && side <= 3 && 0 <= size && size <= 30000);
        need(of(kind).size() < 12, new IllegalStateException());
        Bone made = new Bone();
        made.kind = kind;
        made.part = part;
        made.side = side;
        made.size = size;
        bones.add(made);
        return bones.size() - 1;
    }

    Object single(int kind, int part, boolean is) {
        kind(kind);
        index(0 <= part && part <= 15);
        return is ? alone.add(kind + "/" + part) : alone.remove(kind + "/" + part);
    }

    Object bound(int kind, int tenths) {
        kind(kind);
        argument(0 <= tenths && tenths <= 30000);
        int before = bounds[kind];
        bounds[kind] = tenths;
        return before;
    }

    Object table(int kind, int wear, int from, int to) {
        kind(kind);
        index(0 <= wear && wear <= 15);
        argument(0 <= from && from <= to && to <= 999);
        tables[kind][wear] = new int[] {from, to};
        return "done";
    }

    Object worn(int piece, int wear) {
        Bone one = bone(piece);
        index(0 <= wear && wear <= 15);
        one.from = tables[one.kind][wear][0];
        one.to = tables[one.kind][wear][1];
        return "done";
    }

    Object aged(int piece, int end) {
        Bone one = bone(piece);
        index(end == 0 || end == 1);
        return end == 0 ? one.from : one.to;
    }

    Object unsure(int piece) {
        Bone one = bone(piece);
        boolean was = one.side == 3;
        one.side = 3;
        return !was;
    }

    Object clash(int a, int b) {
        Bone one = bone(a);
        Bone other = bone(b);
        argument(a != b && one.kind == other.kind);
        return rule(one, other);
    }

    private int rule(Bone a, Bone b) {
        boolean samePart = a.part == b.part;
        boolean bothLeft = a.side == 0 && b.side == 0;
        boolean bothRight = a.side == 1 && b.side == 1;
        boolean bothNone = a.side == 2 && b.side == 2;
        if (samePart && (bothLeft || bothRight || bothNone && alone.contains(a.kind + "/" + a.part))) {
            return 1;
        }
        if (Math.max(a.from, b.from) > Math.min(a.to, b.to)) {
            return 2;
        }
        boolean measured = a.size > 0 && b.size > 0;
        return samePart && measured && Math.abs(a.size - b.size) > bounds[a.kind] ? 3 : 0;
    }

    private List<Integer> of(int kind) {
        List<Integer> own = new ArrayList<>();
        for (int i = 0; i < bones.size(); i++) {
            if (bones.get(i).kind == kind) {
                own.add(i);
            }
        }
        return own;
    }

    private boolean[][] apart(List<Integer> own) {
        boolean[][] apart = new boolean[own.size()][own.size()];
        for (int i = 0; i < own.size(); i++) {
            for (int j = 0; j < own.size(); j++) {
                apart[i][j] = i != j && rule(bones.get(own.get(i)), bones.get(own.get(j))) != 0;
            }
        }
        return apart;
    }

    /** Looks at all ways to part that have no more sets than the best one up to then. */
    private static int[] best(boolean[][] apart, int[] way, int at, int sets, int[] best) {
        if (best != null && sets > setsOf(best)) {
            return best;
        }
        if (at == way.length) {
            return best == null || sets < setsOf(best) || lower(way, best) ? way.clone() : best;
        }
        int[] now = best;
        for (int set = 0; set <= sets; set++) {
            boolean free = true;
            for (int i = 0; i < at; i++) {
                free &= way[i] != set || !apart[i][at];
            }
            if (free) {
                way[at] = set;
                now = best(apart, way, at + 1, Math.max(sets, set + 1), now);
            }
        }
        return now;
    }

    private static int setsOf(int[] way) {
        int sets = 0;
        for (int set : way) {
            sets = Math.max(sets, set + 1);
        }
        return sets;
    }

    private static boolean lower(int[] a, int[] b) {
        for (int i = 0; i < a.length; i++) {
            if (a[i] != b[i]) {
                return a[i] < b[i];
            }
        }
        return false;
    }

    private int[] way(int kind) {
        List<Integer> own = of(kind);
        return best(apart(own), new int[own.size()], 0, 0, null);
    }

    Object least(int kind) {
        kind(kind);
        return setsOf(way(kind));
    }

    Object animal(int piece) {
        Bone one = bone(piece);
        return way(one.kind)[of(one.kind).indexOf(piece)];
    }

    Object clashing(int kind, int k) {
        kind(kind);
        index(k >= 0);
        List<Integer> own = of(kind);
        boolean[][] apart = apart(own);
        int[] best = new int[0];
        for (int mask = 0; mask < 1 << own.size(); mask++) {
            int[] set = setOf(mask, own.size());
            if (allApart(set, apart) && (set.length > best.length || set.length == best.length && lower(set, best))) {
                best = set;
            }
        }
        return k < best.length ? own.get(best[k]) : -1;
    }

    private static int[] setOf(int mask, int count) {
        int[] set = new int[Integer.bitCount(mask)];
        int at = 0;
        for (int i = 0; i < count; i++) {
            if ((mask >> i & 1) == 1) {
                set[at++] = i;
            }
        }
        return set;
    }

    private static boolean allApart(int[] set, boolean[][] apart) {
        for (int i = 0; i < set.length; i++) {
            for (int j = 0; j < i; j++) {
                if (!apart[set[i]][set[j]]) {
                    return false;
                }
            }
        }
        return true;
    }

    Object weight(int piece, int grams) {
        Bone one = bone(piece);
        argument(0 <= grams && grams <= 1000000);
        int before = one.grams;
        one.grams = grams;
        return before;
    }

    Object sum(int kind) {
        kind(kind);
        return bones.stream().filter(one -> one.kind == kind).mapToInt(one -> one.grams).sum();
    }

    private static int[] fraction(int above, int below) {
        if (above == 0) {
            return new int[] {0, 1};
        }
        for (int by = below; by > 1; by--) {
            if (above % by == 0 && below % by == 0) {
                return new int[] {above / by, below / by};
            }
        }
        return new int[] {above, below};
    }

    Object share(int kind, int part) {
        kind(kind);
        index(part == 0 || part == 1);
        int all = 0;
        for (int i = 0; i < 6; i++) {
            all += setsOf(way(i));
        }
        return fraction(setsOf(way(kind)), all)[part];
    }

    Object sieve(int kind, int above, int below) {
        kind(kind);
        argument(1 <= below && below <= above && above <= 10000);
        factors[kind] = new int[] {above, below};
        return "done";
    }

    Object scaled(int kind, int part) {
        kind(kind);
        index(0 <= part && part <= 2);
        int above = of(kind).size() * factors[kind][0];
        int below = factors[kind][1];
        return part == 0 ? above / below : fraction(above % below, below)[part - 1];
    }

    Object diverse(int part) {
        index(part == 0 || part == 1);
        int different = 0;
        int all = 0;
        for (int i = 0; i < bones.size(); i++) {
            for (int j = 0; j < bones.size(); j++) {
                all += i != j ? 1 : 0;
                different += bones.get(i).kind != bones.get(j).kind ? 1 : 0;
            }
        }
        return fraction(different, all)[part];
    }

    Object pieces(int kind) {
        if (kind == -1) {
            return bones.size();
        }
        kind(kind);
        return of(kind).size();
    }
}
