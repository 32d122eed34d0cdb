/**
 * Promises 1 to 19: each sentence that names an edge has a method of its own. What the calls refuse, and that a refused
 * call changes nothing, is in RefusedTest; the edges of the terms are in TermsTest.
 */
public final class EdgesTest {
    private static final int NONE = CountLeast.NONE;

    public static void main(String[] args) {
        noPiecesAtFirst();
        pieceAnswersItsNumber();
        theTwelfthIsTakenTheThirteenthNot();
        singleAnswersWhetherItWasNotSo();
        boundAnswersWhatItWas();
        tableTakesItsEdges();
        tableChangesNoAge();
        wornAsTheTableIsNow();
        agedAtBothEnds();
        unsureAnswersWhetherItWasNot();
        clashIsNoughtIfTheyCan();
        leastIsNoughtWithoutPieces();
        whatIsToldMakesNoAnimal();
        animalsCountFromNoughtInEachKind();
        clashingIsNoneBehindTheLast();
        weightAnswersWhatItWas();
        sumsOfNoneAndOfTheGreatest();
        shareWithoutPieces();
        shareCannotBeLessened();
        shareCountsAnimalsNotPieces();
        sieveTakesItsEdges();
        sieveAtFirst();
        scaledWithNothingOver();
        scaledCannotBeLessened();
        scaledAtItsGreatest();
        diverseWithLessThanTwo();
        diverseOfTwo();
        diverseCannotBeLessened();
        piecesOfNoneAreAll();
        Checks.finish();
    }

    /** Promise 1: "No pieces." */
    private static void noPiecesAtFirst() {
        CountLeast bones = new CountLeast();
        for (int kind = NONE; kind <= 5; kind++) {
            Checks.due("pieces of " + kind, bones.pieces(kind), 0);
        }
        for (int piece = 0; piece < 72; piece++) {
            int none = piece;
            Checks.refused("piece " + piece, Checks.OUT_OF_BOUNDS, () -> bones.aged(none, 0));
        }
    }

    /** Promise 2: "A piece: its number", for each least and greatest argument. */
    private static void pieceAnswersItsNumber() {
        CountLeast bones = new CountLeast();
        int next = 0;
        for (int kind : new int[] {0, 5}) {
            for (int part : new int[] {0, 15}) {
                for (int side : new int[] {0, 3}) {
                    for (int size : new int[] {0, 30000}) {
                        Checks.due("piece " + next, bones.piece(kind, part, side, size), next);
                        next++;
                        Checks.due("pieces", bones.pieces(NONE), next);
                    }
                }
            }
        }
    }

    /** Promise 2: "IllegalStateException: the kind has twelve", of each kind and whatever the others have. */
    private static void theTwelfthIsTakenTheThirteenthNot() {
        for (int kind = 0; kind <= 5; kind++) {
            int full = kind;
            CountLeast bones = new CountLeast();
            for (int i = 0; i < 12; i++) {
                Checks.due("piece " + i, bones.piece(kind, 15, 3, 30000), i);
            }
            Checks.refused("the thirteenth of " + kind, Checks.STATE, () -> bones.piece(full, 15, 3, 30000));
            Checks.refused("and once more", Checks.STATE, () -> bones.piece(full, 0, 0, 0));
            Checks.due("pieces of " + kind, bones.pieces(kind), 12);
            Checks.due("another kind's piece has the next number", bones.piece((kind + 1) % 6, 0, 0, 0), 12);
            Checks.refused("the kind is full as before", Checks.STATE, () -> bones.piece(full, 0, 0, 0));
        }
    }

    /** Promise 3: "whether that was not so", for true and for false, in each kind and part. */
    private static void singleAnswersWhetherItWasNotSo() {
        CountLeast bones = new CountLeast();
        for (int kind = 0; kind <= 5; kind++) {
            for (int part : new int[] {0, 7, 15}) {
                Checks.due("false at first", bones.single(kind, part, false), false);
                Checks.due("true", bones.single(kind, part, true), true);
                Checks.due("true again", bones.single(kind, part, true), false);
                Checks.due("false", bones.single(kind, part, false), true);
                Checks.due("false again", bones.single(kind, part, false), false);
                Checks.due("true anew", bones.single(kind, part, true), true);
            }
        }
    }

    /** Promise 4: "what it was", at both ends of 0 .. 30000. */
    private static void boundAnswersWhatItWas() {
        CountLeast bones = new CountLeast();
        for (int kind = 0; kind <= 5; kind++) {
            Checks.due("at first", bones.bound(kind, 0), 30000);
            Checks.due("0", bones.bound(kind, 30000), 0);
            Checks.due("30000", bones.bound(kind, 1), 30000);
            Checks.due("1", bones.bound(kind, 29999), 1);
            Checks.due("29999", bones.bound(kind, 29999), 29999);
        }
    }

    /** Promise 5: "0 <= from <= to <= 999" where each of the three is only just so. */
    private static void tableTakesItsEdges() {
        int[][] ages = {{0, 0}, {0, 999}, {999, 999}, {500, 500}, {0, 1}, {998, 999}};
        for (int[] age : ages) {
            CountLeast bones = new CountLeast();
            bones.piece(0, 0, 0, 0);
            bones.table(0, 15, age[0], age[1]);
            bones.worn(0, 15);
            ageIs(bones, 0, age[0], age[1]);
        }
    }

    /** Promise 5: the wear stands for an age; no piece has changed by it, worn or not. */
    private static void tableChangesNoAge() {
        CountLeast bones = new CountLeast();
        bones.piece(0, 0, 0, 0);
        bones.piece(0, 1, 0, 0);
        bones.table(0, 0, 1, 2);
        bones.worn(1, 0);
        bones.table(0, 0, 3, 4);
        ageIs(bones, 0, 0, 999);
        ageIs(bones, 1, 1, 2);
        Checks.due("least", bones.least(0), 1);
        bones.worn(0, 0);
        Checks.due("least of two ages", bones.least(0), 2);
        bones.table(0, 0, 1, 2);
        Checks.due("least after a table", bones.least(0), 2);
    }

    /** Promise 6: "that of a wear of its kind, as the table is now". */
    private static void wornAsTheTableIsNow() {
        CountLeast bones = new CountLeast();
        bones.piece(5, 0, 0, 0);
        bones.piece(4, 0, 0, 0);
        bones.table(5, 15, 7, 9);
        bones.worn(0, 15);
        bones.worn(1, 15);
        ageIs(bones, 0, 7, 9);
        ageIs(bones, 1, 0, 999);
        bones.table(5, 15, 8, 8);
        bones.worn(0, 15);
        ageIs(bones, 0, 8, 8);
        bones.worn(0, 14);
        ageIs(bones, 0, 0, 999);
    }

    /** Promise 7: "end 0 or 1". */
    private static void agedAtBothEnds() {
        CountLeast bones = new CountLeast();
        bones.table(0, 0, 0, 0);
        bones.table(0, 1, 999, 999);
        for (int i = 0; i < 3; i++) {
            bones.piece(0, 0, 0, 0);
        }
        bones.worn(0, 0);
        bones.worn(2, 1);
        ageIs(bones, 0, 0, 0);
        ageIs(bones, 1, 0, 999);
        ageIs(bones, 2, 999, 999);
    }

    /** Promise 8: "whether it was not". */
    private static void unsureAnswersWhetherItWasNot() {
        CountLeast bones = new CountLeast();
        bones.single(0, 0, true);
        for (int side = 0; side <= 3; side++) {
            int one = bones.piece(0, 0, side, 0);
            int other = bones.piece(0, 0, side, 0);
            Checks.due("clash at side " + side, bones.clash(one, other), side == 3 ? 0 : 1);
            Checks.due("unsure from " + side, bones.unsure(one), side != 3);
            Checks.due("unsure again", bones.unsure(one), false);
            Checks.due("no clash any more", bones.clash(one, other), 0);
            Checks.due("the other is sure as before", bones.unsure(other), side != 3);
        }
    }

    /** Promise 9: "0 if they can", also for the first and the last piece of all. */
    private static void clashIsNoughtIfTheyCan() {
        CountLeast bones = new CountLeast();
        bones.piece(0, 0, 0, 10);
        for (int i = 0; i < 12; i++) {
            bones.piece(5, 0, 0, 0);
        }
        bones.piece(0, 0, 1, 10);
        bones.piece(0, 0, 0, 10);
        Checks.due("clash 0 13", bones.clash(0, 13), 0);
        Checks.due("clash 13 0", bones.clash(13, 0), 0);
        Checks.due("clash 0 14", bones.clash(0, 14), 1);
        Checks.due("clash 14 0", bones.clash(14, 0), 1);
        Checks.refused("clash 0 12", Checks.ARGUMENT, () -> bones.clash(0, 12));
        Checks.refused("clash 12 13", Checks.ARGUMENT, () -> bones.clash(12, 13));
        Checks.refused("clash 14 14", Checks.ARGUMENT, () -> bones.clash(14, 14));
        Checks.refused("clash 14 15", Checks.OUT_OF_BOUNDS, () -> bones.clash(14, 15));
    }

    /** Promise 10: "(0 without pieces)", though other kinds have some; 1 with one. */
    private static void leastIsNoughtWithoutPieces() {
        CountLeast bones = new CountLeast();
        for (int kind = 0; kind <= 5; kind++) {
            Checks.due("least of none", bones.least(kind), 0);
            bones.piece(kind, 0, 0, 0);
            Checks.due("least of one", bones.least(kind), 1);
        }
    }

    /** Promises 10, 12 and 15 "without pieces": a kind of which much was told, but no piece found, has no animal. */
    private static void whatIsToldMakesNoAnimal() {
        CountLeast bones = new CountLeast();
        add(bones, 5, 2);
        for (int kind = 0; kind <= 4; kind++) {
            bones.single(kind, 0, true);
            bones.bound(kind, 0);
            bones.table(kind, 0, 1, 1);
            bones.sieve(kind, 3, 2);
            Checks.due("least of " + kind, bones.least(kind), 0);
            Checks.due("clashing of " + kind, bones.clashing(kind, 0), NONE);
            shareIs(bones, kind, 0, 1);
            scaledIs(bones, kind, 0, 0, 1);
        }
        shareIs(bones, 5, 1, 1);
    }

    /** Promise 11: "0, 1, .. of its kind". */
    private static void animalsCountFromNoughtInEachKind() {
        CountLeast bones = new CountLeast();
        for (int i = 0; i < 12; i++) {
            for (int kind = 0; kind <= 5; kind++) {
                int one = bones.piece(kind, 15, 1, 0);
                Checks.due("animal of " + one, bones.animal(one), i);
            }
        }
        Checks.due("the first", bones.animal(0), 0);
        Checks.due("the last", bones.animal(71), 11);
    }

    /** Promise 12: "in their order; NONE". */
    private static void clashingIsNoneBehindTheLast() {
        CountLeast bones = new CountLeast();
        for (int k : new int[] {0, 1, 11, 12, 13, 31, 32, Integer.MAX_VALUE}) {
            Checks.due("without pieces, place " + k, bones.clashing(5, k), NONE);
        }
        bones.piece(5, 0, 3, 0);
        bones.piece(5, 0, 3, 0);
        Checks.due("one alone", bones.clashing(5, 0), 0);
        Checks.due("no second", bones.clashing(5, 1), NONE);
        for (int i = 2; i < 12; i++) {
            bones.piece(5, 1, 0, 0);
        }
        Checks.due("the first of ten", bones.clashing(5, 0), 2);
        Checks.due("the last of ten", bones.clashing(5, 9), 11);
        for (int k : new int[] {10, 11, 12, 31, 32, Integer.MAX_VALUE}) {
            Checks.due("behind ten, place " + k, bones.clashing(5, k), NONE);
        }
    }

    /** Promise 13: "what it was (0 at first)", at both ends of 0 .. 1000000. */
    private static void weightAnswersWhatItWas() {
        CountLeast bones = new CountLeast();
        for (int piece = 0; piece < 3; piece++) {
            bones.piece(piece, 0, 0, 500);
            Checks.due("at first", bones.weight(piece, 1000000), 0);
            Checks.due("1000000", bones.weight(piece, 0), 1000000);
            Checks.due("0", bones.weight(piece, 1), 0);
            Checks.due("1", bones.weight(piece, 999999), 1);
            Checks.due("999999", bones.weight(piece, 999999), 999999);
        }
    }

    /** Promise 14: "together", from no pieces and no weights to twelve of the greatest. */
    private static void sumsOfNoneAndOfTheGreatest() {
        CountLeast bones = new CountLeast();
        for (int kind = 0; kind <= 5; kind++) {
            Checks.due("of no pieces", bones.sum(kind), 0);
            for (int i = 0; i < 12; i++) {
                int one = bones.piece(kind, 0, 0, 0);
                Checks.due("before the weight", bones.sum(kind), i * 1000000);
                bones.weight(one, 1000000);
            }
            Checks.due("of the greatest", bones.sum(kind), 12000000);
        }
        bones.weight(71, 0);
        Checks.due("one taken back", bones.sum(5), 11000000);
        Checks.due("of another kind", bones.sum(4), 12000000);
    }

    /** Promise 15: "0 / 1 without pieces": without any, and of a kind that has none where others have some. */
    private static void shareWithoutPieces() {
        CountLeast bones = new CountLeast();
        for (int kind = 0; kind <= 5; kind++) {
            shareIs(bones, kind, 0, 1);
        }
        add(bones, 2, 7);
        add(bones, 3, 4);
        for (int kind : new int[] {0, 1, 4, 5}) {
            shareIs(bones, kind, 0, 1);
        }
        shareIs(bones, 2, 7, 11);
        shareIs(bones, 3, 4, 11);
    }

    /** Promise 15: "a fraction that cannot be lessened", up to the share of one kind alone. */
    private static void shareCannotBeLessened() {
        for (int one = 1; one <= 12; one++) {
            for (int other = 0; other <= 12; other += 3) {
                CountLeast bones = new CountLeast();
                add(bones, 0, one);
                add(bones, 5, other);
                int by = greatestCommon(one, one + other);
                shareIs(bones, 0, one / by, (one + other) / by);
            }
        }
        CountLeast full = new CountLeast();
        for (int kind = 0; kind <= 5; kind++) {
            add(full, kind, 12);
        }
        for (int kind = 0; kind <= 5; kind++) {
            shareIs(full, kind, 1, 6);
        }
    }

    /** Promise 15: "of a kind's least number". */
    private static void shareCountsAnimalsNotPieces() {
        CountLeast bones = new CountLeast();
        for (int i = 0; i < 12; i++) {
            bones.piece(0, i, 0, 0);
        }
        add(bones, 1, 3);
        shareIs(bones, 0, 1, 4);
        shareIs(bones, 1, 3, 4);
    }

    /** Promise 16: "1 <= below <= above <= 10000" where each of the three is only just so. */
    private static void sieveTakesItsEdges() {
        CountLeast bones = new CountLeast();
        add(bones, 0, 1);
        int[][] factors = {{1, 1, 1, 0, 1}, {10000, 10000, 1, 0, 1}, {10000, 1, 10000, 0, 1}, {10000, 9999, 1, 1, 9999}, {2, 1, 2, 0, 1}};
        for (int[] factor : factors) {
            bones.sieve(0, factor[0], factor[1]);
            scaledIs(bones, 0, factor[2], factor[3], factor[4]);
        }
    }

    /** Promise 16: "(1 / 1 at first)", and told by kind. */
    private static void sieveAtFirst() {
        CountLeast bones = new CountLeast();
        for (int kind = 0; kind <= 5; kind++) {
            add(bones, kind, kind + 1);
        }
        bones.sieve(3, 5, 2);
        for (int kind = 0; kind <= 5; kind++) {
            if (kind != 3) {
                scaledIs(bones, kind, kind + 1, 0, 1);
            }
        }
        scaledIs(bones, 3, 10, 0, 1);
    }

    /** Promise 17: "(0 / 1 if nothing is)" over: without pieces, and where the factor goes up. */
    private static void scaledWithNothingOver() {
        CountLeast bones = new CountLeast();
        bones.sieve(0, 7, 3);
        scaledIs(bones, 0, 0, 0, 1);
        add(bones, 0, 3);
        scaledIs(bones, 0, 7, 0, 1);
        bones.sieve(0, 10000, 10000);
        scaledIs(bones, 0, 3, 0, 1);
    }

    /** Promise 17: "above (1) and below (2) of a fraction that cannot be lessened". */
    private static void scaledCannotBeLessened() {
        CountLeast bones = new CountLeast();
        bones.sieve(0, 16, 12);
        int[][] want = {{1, 1, 3}, {2, 2, 3}, {4, 0, 1}, {5, 1, 3}, {6, 2, 3}, {8, 0, 1}};
        for (int[] one : want) {
            add(bones, 0, 1);
            scaledIs(bones, 0, one[0], one[1], one[2]);
        }
        bones.sieve(0, 10000, 9996);
        scaledIs(bones, 0, 6, 2, 833);
    }

    /** Promise 17: the greatest number, and the greatest above and below. */
    private static void scaledAtItsGreatest() {
        CountLeast bones = new CountLeast();
        add(bones, 5, 12);
        bones.sieve(5, 10000, 1);
        scaledIs(bones, 5, 120000, 0, 1);
        bones.sieve(5, 10000, 9999);
        scaledIs(bones, 5, 12, 4, 3333);
        bones.sieve(5, 9999, 9998);
        scaledIs(bones, 5, 12, 6, 4999);
        add(bones, 4, 1);
        bones.sieve(4, 9999, 5000);
        scaledIs(bones, 4, 1, 4999, 5000);
    }

    /** Promise 18: "0 / 1 with less than two". */
    private static void diverseWithLessThanTwo() {
        CountLeast bones = new CountLeast();
        diverseIs(bones, 0, 1);
        for (int kind = 0; kind <= 5; kind++) {
            CountLeast one = new CountLeast();
            add(one, kind, 1);
            diverseIs(one, 0, 1);
        }
    }

    /** Promise 18: "two pieces, drawn one behind the other": two of one kind never differ, two of two kinds always. */
    private static void diverseOfTwo() {
        for (int a = 0; a <= 5; a++) {
            for (int b = 0; b <= 5; b++) {
                CountLeast bones = new CountLeast();
                add(bones, a, 1);
                add(bones, b, 1);
                diverseIs(bones, a == b ? 0 : 1, 1);
            }
        }
    }

    /** Promise 18: "a fraction that cannot be lessened", up to seventy-two pieces. */
    private static void diverseCannotBeLessened() {
        for (int one = 1; one <= 12; one++) {
            for (int other = 1; other <= 12; other++) {
                CountLeast bones = new CountLeast();
                add(bones, 1, one);
                add(bones, 4, other);
                int above = 2 * one * other;
                int below = (one + other) * (one + other - 1);
                int by = greatestCommon(above, below);
                diverseIs(bones, above / by, below / by);
            }
        }
        CountLeast full = new CountLeast();
        for (int kind = 0; kind <= 5; kind++) {
            add(full, kind, 12);
        }
        diverseIs(full, 60, 71);
        CountLeast alike = new CountLeast();
        add(alike, 3, 12);
        diverseIs(alike, 0, 1);
        CountLeast apart = new CountLeast();
        for (int kind = 0; kind <= 5; kind++) {
            add(apart, kind, 1);
        }
        diverseIs(apart, 1, 1);
    }

    /** Promise 19: "kind NONE: all", from none to seventy-two. */
    private static void piecesOfNoneAreAll() {
        CountLeast bones = new CountLeast();
        Checks.due("none", bones.pieces(NONE), 0);
        for (int i = 0; i < 72; i++) {
            bones.piece(i / 12, 0, 0, 0);
            Checks.due("of the kind", bones.pieces(i / 12), i % 12 + 1);
            Checks.due("all", bones.pieces(NONE), i + 1);
        }
        for (int kind = 0; kind <= 5; kind++) {
            Checks.due("of kind " + kind, bones.pieces(kind), 12);
        }
    }

    /** Left pieces of one part: as many animals as pieces. */
    private static void add(CountLeast bones, int kind, int count) {
        for (int i = 0; i < count; i++) {
            bones.piece(kind, 0, 0, 0);
        }
    }

    private static int greatestCommon(int a, int b) {
        int by = Math.min(a, b);
        while (a % by != 0 || b % by != 0) {
            by--;
        }
        return by;
    }

    private static void ageIs(CountLeast bones, int piece, int from, int to) {
        Checks.due("from of " + piece, bones.aged(piece, 0), from);
        Checks.due("to of " + piece, bones.aged(piece, 1), to);
    }

    private static void shareIs(CountLeast bones, int kind, int above, int below) {
        Checks.due("share above of " + kind, bones.share(kind, 0), above);
        Checks.due("share below of " + kind, bones.share(kind, 1), below);
    }

    private static void scaledIs(CountLeast bones, int kind, int whole, int above, int below) {
        Checks.due("scaled whole of " + kind, bones.scaled(kind, 0), whole);
        Checks.due("scaled above of " + kind, bones.scaled(kind, 1), above);
        Checks.due("scaled below of " + kind, bones.scaled(kind, 2), below);
    }

    private static void diverseIs(CountLeast bones, int above, int below) {
        Checks.due("diverse above", bones.diverse(0), above);
        Checks.due("diverse below", bones.diverse(1), below);
    }
}
