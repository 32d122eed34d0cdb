/** What the document's 'What it is' and 'Terms' say of edges: each sentence has a method of its own. */
public final class TermsTest {
    private static final int NONE = CountLeast.NONE;

    public static void main(String[] args) {
        fiveHundredAndTwelveCalls();
        objectsKnowNothingOfEachOther();
        kindsAreSix();
        twelvePiecesOfEachKind();
        partsAreSixteen();
        sidesAreFour();
        agesAtFirst();
        sizesFromOne();
        sizeNoughtIsNotMeasured();
        sameSideLeftOrRight();
        oneAloneNeedsNoSideOfBoth();
        oneAloneIsToldByKind();
        agesWithoutACommonMonth();
        sizesBeyondTheBound();
        theBoundAtFirst();
        theFirstRuleThatHolds();
        animalsAsFewAsMayBe();
        animalsByTheirFirstPieces();
        theLowerNumberWhereWaysDiffer();
        clashingAsManyAsMayBe();
        clashingWithTheLowerPiece();
        wearsAreSixteen();
        wearsAtFirst();
        Checks.finish();
    }

    /** "An object is used for at most 512 calls after it has been made": the 512th still counts. */
    private static void fiveHundredAndTwelveCalls() {
        CountLeast bones = new CountLeast();
        int calls = 0;
        for (int i = 0; i < 72; i++) {
            bones.piece(i % 6, 0, 0, 0);
            calls++;
        }
        while (calls < 511) {
            Checks.due("bound, call " + calls, bones.bound(calls % 6, calls), calls < 78 ? 30000 : calls - 6);
            calls++;
        }
        Checks.due("the 512th call", bones.least(3), 12);
    }

    private static void objectsKnowNothingOfEachOther() {
        CountLeast one = new CountLeast();
        CountLeast other = new CountLeast();
        one.piece(0, 0, 2, 10);
        one.piece(0, 0, 2, 20);
        other.piece(0, 0, 2, 10);
        other.piece(0, 0, 2, 20);
        one.single(0, 0, true);
        one.table(0, 0, 3, 4);
        one.worn(0, 0);
        one.sieve(0, 5, 2);
        one.weight(0, 9);
        Checks.due("least of one", one.least(0), 2);
        Checks.due("least of the other", other.least(0), 1);
        other.worn(0, 0);
        Checks.due("age of the other", other.aged(0, 1), 999);
        Checks.due("scaled of the other", other.scaled(0, 0), 2);
        Checks.due("sum of the other", other.sum(0), 0);
        Checks.due("bound of one", one.bound(0, 5), 30000);
        Checks.due("bound of the other", other.bound(0, 6), 30000);
        Checks.due("single of the other", other.single(0, 0, true), true);
    }

    /** "KINDS are 0 .. 5". */
    private static void kindsAreSix() {
        for (int kind = 0; kind <= 5; kind++) {
            CountLeast bones = new CountLeast();
            Checks.due("the piece of kind " + kind, bones.piece(kind, 0, 0, 0), 0);
            for (int other = 0; other <= 5; other++) {
                int want = other == kind ? 1 : 0;
                Checks.due("pieces of " + other, bones.pieces(other), want);
                Checks.due("least of " + other, bones.least(other), want);
                Checks.due("share of " + other, bones.share(other, 0), want);
                Checks.due("scaled of " + other, bones.scaled(other, 0), want);
                Checks.due("clashing of " + other, bones.clashing(other, 0), want - 1);
            }
        }
    }

    /** "each with at most twelve PIECES; pieces are 0, 1, .. in all". */
    private static void twelvePiecesOfEachKind() {
        CountLeast bones = new CountLeast();
        for (int i = 0; i < 72; i++) {
            Checks.due("piece " + i, bones.piece(i % 6, 0, 0, 0), i);
        }
        for (int kind = 0; kind <= 5; kind++) {
            int full = kind;
            Checks.due("pieces of " + kind, bones.pieces(kind), 12);
            Checks.refused("a thirteenth of " + kind, Checks.STATE, () -> bones.piece(full, 0, 0, 0));
        }
        Checks.due("all", bones.pieces(NONE), 72);
        Checks.due("the animal of piece 71", bones.animal(71), 11);
        Checks.refused("the animal of piece 72", Checks.OUT_OF_BOUNDS, () -> bones.animal(72));
    }

    /** "a PART 0 .. 15 of the body". */
    private static void partsAreSixteen() {
        for (int part = 0; part <= 15; part++) {
            CountLeast bones = new CountLeast();
            int other = 15 - part;
            bones.piece(0, part, 0, 0);
            bones.piece(0, part, 0, 0);
            bones.piece(0, other, 0, 0);
            Checks.due("the same part " + part, bones.clash(0, 1), 1);
            Checks.due("parts " + part + " and " + other, bones.clash(0, 2), 0);
        }
    }

    /** "a SIDE (0 left, 1 right, 2 of no side, 3 unsure)". */
    private static void sidesAreFour() {
        for (int side = 0; side <= 3; side++) {
            CountLeast bones = new CountLeast();
            Checks.due("a piece of side " + side, bones.piece(0, 0, side, 0), 0);
            Checks.due("unsure from side " + side, bones.unsure(0), side != 3);
        }
    }

    /** "an AGE from .. to in months (at first 0 .. 999)". */
    private static void agesAtFirst() {
        CountLeast bones = new CountLeast();
        bones.table(0, 0, 5, 6);
        bones.piece(0, 0, 0, 0);
        bones.piece(5, 15, 3, 30000);
        for (int piece = 0; piece < 2; piece++) {
            Checks.due("from", bones.aged(piece, 0), 0);
            Checks.due("to", bones.aged(piece, 1), 999);
        }
    }

    /** "a SIZE in tenths of a millimetre 1 .. 30000". */
    private static void sizesFromOne() {
        CountLeast bones = new CountLeast();
        bones.bound(0, 0);
        Checks.due("size 1", bones.piece(0, 0, 3, 1), 0);
        Checks.due("size 30000", bones.piece(0, 0, 3, 30000), 1);
        Checks.due("size 2", bones.piece(0, 0, 3, 2), 2);
        Checks.due("1 is measured", bones.clash(0, 2), 3);
        Checks.due("30000 is measured", bones.clash(1, 2), 3);
    }

    /** "or 0: not measured": such a piece clashes with none by its size, however small the bound. */
    private static void sizeNoughtIsNotMeasured() {
        CountLeast bones = new CountLeast();
        bones.bound(0, 0);
        bones.piece(0, 0, 3, 0);
        bones.piece(0, 0, 3, 1);
        bones.piece(0, 0, 3, 30000);
        bones.piece(0, 0, 3, 0);
        both(bones, 0, 1, 0);
        both(bones, 0, 2, 0);
        both(bones, 0, 3, 0);
    }

    /** "the same part, and the same side 0 or 1": left and right can be one, unsure ones and those of no side too. */
    private static void sameSideLeftOrRight() {
        for (int a = 0; a <= 3; a++) {
            for (int b = 0; b <= 3; b++) {
                CountLeast bones = new CountLeast();
                bones.piece(0, 3, a, 0);
                bones.piece(0, 3, b, 0);
                bones.piece(0, 4, b, 0);
                both(bones, 0, 1, a == b && a <= 1 ? 1 : 0);
                both(bones, 0, 2, 0);
            }
        }
    }

    /** "or the part is one of those of which there is ONE alone ..., and both have side 2". */
    private static void oneAloneNeedsNoSideOfBoth() {
        for (int a = 0; a <= 3; a++) {
            for (int b = 0; b <= 3; b++) {
                CountLeast bones = new CountLeast();
                bones.single(0, 3, true);
                bones.single(0, 4, true);
                bones.piece(0, 3, a, 0);
                bones.piece(0, 3, b, 0);
                bones.piece(0, 4, b, 0);
                both(bones, 0, 1, a == b && a <= 2 ? 1 : 0);
                both(bones, 0, 2, 0);
            }
        }
    }

    /** "(told by kind)". */
    private static void oneAloneIsToldByKind() {
        for (int told = 0; told <= 5; told++) {
            CountLeast bones = new CountLeast();
            bones.single(told, 15, true);
            for (int kind = 0; kind <= 5; kind++) {
                int one = bones.piece(kind, 15, 2, 0);
                int other = bones.piece(kind, 15, 2, 0);
                both(bones, one, other, kind == told ? 1 : 0);
            }
        }
    }

    /** "AGES: no month is in both ages": one common month is enough to be one. */
    private static void agesWithoutACommonMonth() {
        int[][] ages = {
            {0, 0, 0, 0, 0}, {999, 999, 999, 999, 0}, {0, 0, 999, 999, 2}, {0, 0, 1, 1, 2}, {998, 998, 999, 999, 2},
            {0, 5, 5, 9, 0}, {0, 4, 5, 9, 2}, {0, 6, 5, 9, 0}, {0, 999, 500, 500, 0}, {0, 999, 0, 0, 0},
            {0, 999, 999, 999, 0}, {0, 998, 999, 999, 2}, {1, 999, 0, 0, 2}, {3, 7, 3, 7, 0}, {3, 7, 3, 3, 0}, {3, 7, 7, 7, 0},
        };
        for (int[] age : ages) {
            CountLeast bones = new CountLeast();
            bones.piece(1, 0, 0, 0);
            bones.piece(1, 9, 1, 0);
            bones.table(1, 0, age[0], age[1]);
            bones.table(1, 15, age[2], age[3]);
            bones.worn(0, 0);
            bones.worn(1, 15);
            both(bones, 0, 1, age[4]);
        }
    }

    /** "SIZES: both are measured, of the same part, and differ by more than the kind's BOUND". */
    private static void sizesBeyondTheBound() {
        int[][] sizes = {
            {1, 30000, 29999, 0}, {1, 30000, 29998, 3}, {7, 7, 0, 0}, {7, 8, 0, 3}, {7, 8, 1, 0}, {100, 150, 50, 0},
            {100, 151, 50, 3}, {0, 30000, 0, 0}, {0, 0, 0, 0}, {1, 2, 0, 3}, {29999, 30000, 0, 3}, {29999, 30000, 1, 0},
        };
        for (int[] size : sizes) {
            CountLeast bones = new CountLeast();
            bones.piece(2, 6, 0, size[0]);
            bones.piece(2, 6, 1, size[1]);
            bones.piece(2, 7, 1, size[1]);
            bones.bound(2, size[2]);
            bones.bound(1, 30000);
            bones.bound(3, 30000);
            both(bones, 0, 1, size[3]);
            both(bones, 0, 2, 0);
        }
    }

    /** "the kind's BOUND (at first 30000)": then no two sizes differ by more. */
    private static void theBoundAtFirst() {
        for (int kind = 0; kind <= 5; kind++) {
            CountLeast bones = new CountLeast();
            bones.piece(kind, 6, 0, 1);
            bones.piece(kind, 6, 1, 30000);
            both(bones, 0, 1, 0);
            Checks.due("the bound of kind " + kind, bones.bound(kind, 0), 30000);
            both(bones, 0, 1, 3);
        }
    }

    /** "by the first of these that holds": all eight ways in which the rules hold or not. */
    private static void theFirstRuleThatHolds() {
        for (int mask = 0; mask < 8; mask++) {
            boolean bySides = (mask & 1) != 0;
            boolean byAges = (mask & 2) != 0;
            boolean bySizes = (mask & 4) != 0;
            CountLeast bones = new CountLeast();
            bones.piece(3, 6, 0, 10);
            bones.piece(3, 6, bySides ? 0 : 1, bySizes ? 21 : 20);
            bones.bound(3, 10);
            bones.table(3, 0, 0, 8);
            bones.table(3, 1, byAges ? 9 : 8, 20);
            bones.worn(0, 0);
            bones.worn(1, 1);
            both(bones, 0, 1, bySides ? 1 : byAges ? 2 : bySizes ? 3 : 0);
        }
    }

    /** "parted into as few sets as may be, so that no two in one cannot be one": from one set of twelve to twelve sets. */
    private static void animalsAsFewAsMayBe() {
        for (int lefts = 0; lefts <= 12; lefts++) {
            CountLeast bones = new CountLeast();
            for (int i = 0; i < 12; i++) {
                bones.piece(0, 0, i < lefts ? 0 : 3, 0);
            }
            int want = lefts == 0 ? 1 : lefts;
            Checks.due("least with " + lefts, bones.least(0), want);
            for (int i = 0; i < 12; i++) {
                Checks.due("animal " + i, bones.animal(i), i < lefts ? i : 0);
            }
        }
    }

    /** "each one's animal being numbered in the order of their first pieces": the first of a kind is always of animal 0. */
    private static void animalsByTheirFirstPieces() {
        CountLeast bones = new CountLeast();
        int[] sides = {3, 0, 0, 1, 1, 1, 3};
        int[] want = {0, 0, 1, 0, 1, 2, 0};
        for (int i = 0; i < sides.length; i++) {
            bones.piece(5, 2, 0, 0);
            bones.piece(0, 2, sides[i], 0);
        }
        for (int i = 0; i < want.length; i++) {
            Checks.due("animal of kind 0, piece " + i, bones.animal(2 * i + 1), want[i]);
            Checks.due("animal of kind 5, piece " + i, bones.animal(2 * i), i);
        }
    }

    /** "the one with the lower number for the first piece where they differ". */
    private static void theLowerNumberWhereWaysDiffer() {
        CountLeast bones = new CountLeast();
        bones.table(0, 0, 0, 4);
        bones.table(0, 1, 5, 9);
        int[] parts = {1, 2, 1, 2, 3};
        for (int part : parts) {
            bones.piece(0, part, 0, 0);
        }
        bones.worn(2, 0);
        bones.worn(3, 1);
        // 0 and 2, 1 and 3, 2 and 3 clash: with two animals, piece 3 must be with 0; piece 4 may be of either.
        int[] want = {0, 1, 1, 0, 0};
        Checks.due("least", bones.least(0), 2);
        for (int i = 0; i < want.length; i++) {
            Checks.due("animal " + i, bones.animal(i), want[i]);
        }
    }

    /** "a set as great as may be": none without pieces, one of one piece alone, twelve of twelve. */
    private static void clashingAsManyAsMayBe() {
        CountLeast bones = new CountLeast();
        clashingAre(bones, 2);
        bones.piece(1, 0, 0, 0);
        for (int i = 1; i <= 12; i++) {
            bones.piece(2, 0, 1, 0);
            int[] want = new int[i];
            for (int j = 0; j < i; j++) {
                want[j] = j + 1;
            }
            clashingAre(bones, 2, want);
        }
    }

    /** "of such the one with the lower piece where they differ first". */
    private static void clashingWithTheLowerPiece() {
        CountLeast bones = new CountLeast();
        int[] parts = {5, 1, 2, 2, 1, 3, 3};
        for (int part : parts) {
            bones.piece(4, part, 0, 0);
        }
        clashingAre(bones, 4, 1, 4);
        // A tie that is settled at the second place: 1 and 3 clash by age, 1 and 4 by side.
        bones.table(4, 0, 0, 4);
        bones.table(4, 1, 5, 9);
        bones.worn(1, 0);
        bones.worn(3, 1);
        clashingAre(bones, 4, 1, 3);
        bones.piece(4, 3, 0, 0);
        clashingAre(bones, 4, 5, 6, 7);
    }

    /** "WEAR 0 .. 15 of a kind stands for an age": each wear of each kind has its own. */
    private static void wearsAreSixteen() {
        CountLeast bones = new CountLeast();
        for (int kind = 0; kind <= 5; kind++) {
            bones.piece(kind, 0, 0, 0);
            for (int wear = 0; wear <= 15; wear++) {
                bones.table(kind, wear, 16 * kind + wear, 500 + 16 * kind + wear);
            }
        }
        for (int kind = 0; kind <= 5; kind++) {
            for (int wear = 0; wear <= 15; wear++) {
                bones.worn(kind, wear);
                Checks.due("from", bones.aged(kind, 0), 16 * kind + wear);
                Checks.due("to", bones.aged(kind, 1), 500 + 16 * kind + wear);
            }
        }
    }

    /** "WEAR ... (at first 0 .. 999)". */
    private static void wearsAtFirst() {
        for (int kind = 0; kind <= 5; kind++) {
            CountLeast bones = new CountLeast();
            bones.piece(kind, 0, 0, 0);
            for (int wear = 0; wear <= 15; wear++) {
                bones.worn(0, wear);
                Checks.due("from by wear " + wear, bones.aged(0, 0), 0);
                Checks.due("to by wear " + wear, bones.aged(0, 1), 999);
            }
        }
    }

    private static void both(CountLeast bones, int a, int b, int want) {
        Checks.due("clash " + a + " " + b, bones.clash(a, b), want);
        Checks.due("clash " + b + " " + a, bones.clash(b, a), want);
    }

    private static void clashingAre(CountLeast bones, int kind, int... want) {
        for (int k = 0; k < 13; k++) {
            Checks.due("clashing " + k, bones.clashing(kind, k), k < want.length ? want[k] : NONE);
        }
    }
}
