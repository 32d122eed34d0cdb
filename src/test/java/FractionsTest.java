/** Promises 15 to 18: share, sieve, scaled, diverse. */
public final class FractionsTest {
    public static void main(String[] args) {
        shares();
        sieves();
        wrongSieves();
        diversity();
        Checks.finish();
    }

    private static void shares() {
        CountLeast bones = new CountLeast();
        add(bones, 0, 4);
        shareIs(bones, 0, 1, 1);
        shareIs(bones, 1, 0, 1);
        add(bones, 1, 2);
        shareIs(bones, 0, 2, 3);
        shareIs(bones, 1, 1, 3);
        shareIs(bones, 5, 0, 1);
        bones.unsure(5);
        shareIs(bones, 0, 4, 5);
        shareIs(bones, 1, 1, 5);
        Checks.refused("share(-1, 0)", Checks.OUT_OF_BOUNDS, () -> bones.share(-1, 0));
        Checks.refused("share(6, 0)", Checks.OUT_OF_BOUNDS, () -> bones.share(6, 0));
        Checks.refused("share(0, -1)", Checks.OUT_OF_BOUNDS, () -> bones.share(0, -1));
        Checks.refused("share(0, 2)", Checks.OUT_OF_BOUNDS, () -> bones.share(0, 2));
        Checks.refused("share(5, 2)", Checks.OUT_OF_BOUNDS, () -> bones.share(5, 2));
    }

    private static void sieves() {
        CountLeast bones = new CountLeast();
        scaledIs(bones, 2, 0, 0, 1);
        bones.sieve(2, 10000, 9999);
        scaledIs(bones, 2, 0, 0, 1);
        add(bones, 2, 3);
        add(bones, 3, 3);
        scaledIs(bones, 3, 3, 0, 1);
        scaledIs(bones, 2, 3, 1, 3333);
        bones.sieve(2, 10, 4);
        scaledIs(bones, 2, 7, 1, 2);
        bones.sieve(2, 8, 4);
        scaledIs(bones, 2, 6, 0, 1);
        bones.sieve(2, 7, 7);
        scaledIs(bones, 2, 3, 0, 1);
        bones.sieve(2, 10000, 1);
        scaledIs(bones, 2, 30000, 0, 1);
        bones.sieve(2, 1, 1);
        scaledIs(bones, 2, 3, 0, 1);
        bones.sieve(2, 9, 7);
        add(bones, 2, 9);
        scaledIs(bones, 2, 15, 3, 7);
        bones.sieve(2, 10000, 1);
        scaledIs(bones, 2, 120000, 0, 1);
        scaledIs(bones, 3, 3, 0, 1);
    }

    private static void wrongSieves() {
        CountLeast bones = new CountLeast();
        add(bones, 2, 3);
        bones.sieve(2, 5, 2);
        Checks.refused("below 0", Checks.ARGUMENT, () -> sieved(bones, 2, 4, 0));
        Checks.refused("negative", Checks.ARGUMENT, () -> sieved(bones, 2, -1, -1));
        Checks.refused("both 0", Checks.ARGUMENT, () -> sieved(bones, 2, 0, 0));
        Checks.refused("less than one", Checks.ARGUMENT, () -> sieved(bones, 2, 3, 4));
        Checks.refused("10001", Checks.ARGUMENT, () -> sieved(bones, 2, 10001, 1));
        Checks.refused("both 10001", Checks.ARGUMENT, () -> sieved(bones, 2, 10001, 10001));
        Checks.refused("kind first", Checks.OUT_OF_BOUNDS, () -> sieved(bones, 6, 3, 4));
        Checks.refused("kind -1", Checks.OUT_OF_BOUNDS, () -> sieved(bones, -1, 4, 3));
        scaledIs(bones, 2, 7, 1, 2);
        Checks.refused("scaled(-1, 0)", Checks.OUT_OF_BOUNDS, () -> bones.scaled(-1, 0));
        Checks.refused("scaled(6, 0)", Checks.OUT_OF_BOUNDS, () -> bones.scaled(6, 0));
        Checks.refused("scaled(2, -1)", Checks.OUT_OF_BOUNDS, () -> bones.scaled(2, -1));
        Checks.refused("scaled(2, 3)", Checks.OUT_OF_BOUNDS, () -> bones.scaled(2, 3));
    }

    private static void diversity() {
        CountLeast bones = new CountLeast();
        diverseIs(bones, 0, 1);
        add(bones, 0, 1);
        diverseIs(bones, 0, 1);
        add(bones, 0, 1);
        diverseIs(bones, 0, 1);
        add(bones, 1, 1);
        diverseIs(bones, 2, 3);
        add(bones, 1, 1);
        diverseIs(bones, 2, 3);
        for (int kind = 0; kind < 6; kind++) {
            add(bones, kind, 12 - bones.pieces(kind));
        }
        diverseIs(bones, 60, 71);
        CountLeast apart = new CountLeast();
        add(apart, 2, 1);
        add(apart, 4, 1);
        diverseIs(apart, 1, 1);
        Checks.refused("diverse(-1)", Checks.OUT_OF_BOUNDS, () -> bones.diverse(-1));
        Checks.refused("diverse(2)", Checks.OUT_OF_BOUNDS, () -> bones.diverse(2));
    }

    /** Left pieces of one part: as many animals as pieces. */
    private static void add(CountLeast bones, int kind, int count) {
        for (int i = 0; i < count; i++) {
            bones.piece(kind, 0, 0, 0);
        }
    }

    private static void shareIs(CountLeast bones, int kind, int above, int below) {
        Checks.due("share above of " + kind, bones.share(kind, 0), above);
        Checks.due("share below of " + kind, bones.share(kind, 1), below);
    }

    private static void scaledIs(CountLeast bones, int kind, int whole, int above, int below) {
        Checks.due("scaled whole of " + kind, bones.scaled(kind, 0), whole);
        Checks.due("scaled above of " + kind, bones.scaled(kind, 1), above);
        Checks.due("scaled below of " + kind, bones.scaled(kind, 2), below);
    }

    private static void diverseIs(CountLeast bones, int above, int below) {
        Checks.due("diverse above", bones.diverse(0), above);
        Checks.due("diverse below", bones.diverse(1), below);
    }

    private static Object sieved(CountLeast bones, int kind, int above, int below) {
        bones.sieve(kind, above, below);
        return "done";
    }
}
