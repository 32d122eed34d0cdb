/** All promises: long runs of calls, good and wrong ones, each answered as the plain model answers it. */
public final class ModelTest {
    private static final int RUNS = 240;
    private static final int CALLS = 512;
    private static final int[] WRONG = {-1, -2, 2, 3, 4, 6, 12, 16, 72, 999, 1000, 10001, 30001, 1000001, Integer.MAX_VALUE, Integer.MIN_VALUE};

    private long seed;
    private final int parts;
    private final int kinds;
    private final int wrongIn;
    private final CountLeast real = new CountLeast();
    private final Model model = new Model();

    private ModelTest(int run) {
        seed = run * 7919L + 17;
        parts = run % 3 == 0 ? 16 : 1 + run % 5;
        kinds = run % 4 == 0 ? 6 : 1 + run % 2;
        wrongIn = run % 6 == 0 ? 3 : 12;
    }

    public static void main(String[] args) {
        for (int run = 0; run < RUNS; run++) {
            ModelTest one = new ModelTest(run);
            for (int call = 0; call < CALLS; call++) {
                one.call("run " + run + ", call " + call + ": ");
            }
        }
        Checks.finish();
    }

    private int below(int bound) {
        seed = seed * 6364136223846793005L + 1442695040888963407L;
        return (int) ((seed >>> 33) % bound);
    }

    private int orWrong(int good) {
        return below(wrongIn * 3) == 0 ? WRONG[below(WRONG.length)] : good;
    }

    private int kind() {
        return orWrong(below(kinds));
    }

    private int somePiece() {
        int all = real.pieces(CountLeast.NONE);
        return orWrong(all == 0 ? 0 : below(all));
    }

    private int size() {
        return below(3) == 0 ? 0 : orWrong(1 + below(200));
    }

    private void call(String at) {
        int which = below(40);
        if (which < 6) {
            int[] a = {kind(), orWrong(below(parts)), orWrong(below(4)), size()};
            same(at + "piece", () -> real.piece(a[0], a[1], a[2], a[3]), () -> model.piece(a[0], a[1], a[2], a[3]), a);
        } else if (which < 14) {
            change(at, which);
        } else if (which < 20) {
            changePiece(at, which);
        } else if (which < 34) {
            askAnimals(at, which);
        } else {
            askCounts(at, which);
        }
    }

    private void change(String at, int which) {
        int from = below(60);
        int[] a = {kind(), orWrong(below(16)), orWrong(from), orWrong(from + below(40) - 2)};
        if (which < 8) {
            boolean is = below(3) != 0;
            int part = orWrong(below(parts));
            same(at + "single " + is, () -> real.single(a[0], part, is), () -> model.single(a[0], part, is), a[0], part);
        } else if (which < 10) {
            int tenths = orWrong(below(150));
            same(at + "bound", () -> real.bound(a[0], tenths), () -> model.bound(a[0], tenths), a[0], tenths);
        } else if (which < 13) {
            same(at + "table", () -> {
                real.table(a[0], a[1], a[2], a[3]);
                return "done";
            }, () -> model.table(a[0], a[1], a[2], a[3]), a);
        } else {
            int divisor = 1 + below(30);
            int[] f = {a[0], orWrong(divisor + below(300) - 2), orWrong(divisor)};
            same(at + "sieve", () -> {
                real.sieve(f[0], f[1], f[2]);
                return "done";
            }, () -> model.sieve(f[0], f[1], f[2]), f);
        }
    }

    private void changePiece(String at, int which) {
        int piece = somePiece();
        if (which < 17) {
            int wear = orWrong(below(16));
            same(at + "worn", () -> {
                real.worn(piece, wear);
                return "done";
            }, () -> model.worn(piece, wear), piece, wear);
        } else if (which < 18) {
            same(at + "unsure", () -> real.unsure(piece), () -> model.unsure(piece), piece);
        } else {
            int grams = orWrong(below(5000));
            same(at + "weight", () -> real.weight(piece, grams), () -> model.weight(piece, grams), piece, grams);
        }
    }

    private void askAnimals(String at, int which) {
        int piece = somePiece();
        int other = somePiece();
        int kind = kind();
        int end = orWrong(below(2));
        int k = orWrong(below(5));
        if (which < 22) {
            same(at + "aged", () -> real.aged(piece, end), () -> model.aged(piece, end), piece, end);
        } else if (which < 25) {
            same(at + "clash", () -> real.clash(piece, other), () -> model.clash(piece, other), piece, other);
        } else if (which < 27) {
            same(at + "least", () -> real.least(kind), () -> model.least(kind), kind);
        } else if (which < 31) {
            same(at + "animal", () -> real.animal(piece), () -> model.animal(piece), piece);
        } else {
            same(at + "clashing", () -> real.clashing(kind, k), () -> model.clashing(kind, k), kind, k);
        }
    }

    private void askCounts(String at, int which) {
        int kind = kind();
        int part = orWrong(below(which == 36 ? 3 : 2));
        if (which == 34) {
            same(at + "sum", () -> real.sum(kind), () -> model.sum(kind), kind);
        } else if (which == 35) {
            same(at + "share", () -> real.share(kind, part), () -> model.share(kind, part), kind, part);
        } else if (which == 36) {
            same(at + "scaled", () -> real.scaled(kind, part), () -> model.scaled(kind, part), kind, part);
        } else if (which == 37) {
            same(at + "diverse", () -> real.diverse(part), () -> model.diverse(part), part);
        } else {
            same(at + "pieces", () -> real.pieces(kind), () -> model.pieces(kind), kind);
        }
    }

    private static void same(String what, Checks.Call got, Checks.Call want, int... arguments) {
        Checks.due(what + java.util.Arrays.toString(arguments), Checks.answerOf(got), Checks.answerOf(want));
    }
}
