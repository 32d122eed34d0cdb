import java.util.ArrayList;
import java.util.List;

/**
 * EXCEPTIONS of the document: each call that a promise refuses, what it throws, and "Such a call changes nothing".
 * Every refused call has two ready objects of its own; both must then answer as an object does that never heard it.
 */
public final class RefusedTest {
    private interface Step {
        Object on(CountLeast bones);
    }

    private record Refusal(String what, Class<?> due, Step step) {
    }

    private static final int LEAST = Integer.MIN_VALUE;
    private static final int GREATEST = Integer.MAX_VALUE;
    private static final int[] NO_KIND = {-1, 6, LEAST, GREATEST};
    private static final int[] NO_PART = {-1, 16, LEAST, GREATEST};
    private static final int[] NO_WEAR = NO_PART;
    private static final int ALL = 17;
    private static final int[] NO_PIECE = {-1, ALL, 72, LEAST, GREATEST};
    private static final int FULL = 4;

    private static final int[] NO_SIDE = {-1, 4, LEAST, GREATEST};
    private static final int[] NO_SIZE = {-1, 30001, LEAST, GREATEST};
    private static final int[] NO_BOUND = NO_SIZE;
    private static final int[] NO_WEIGHT = {-1, 1000001, LEAST, GREATEST};
    private static final int[][] NO_AGE = {
        {-1, 5}, {-1, -1}, {6, 5}, {1, 0}, {999, 998}, {0, 1000}, {1000, 1000}, {1000, 999}, {5, -1},
        {LEAST, 5}, {5, LEAST}, {LEAST, LEAST}, {GREATEST, 5}, {5, GREATEST}, {GREATEST, GREATEST},
        {LEAST, GREATEST}, {GREATEST, LEAST}};
    private static final int[][] NO_FACTOR = {
        {0, 0}, {1, 0}, {4, 0}, {4, -1}, {-1, -1}, {0, 1}, {-4, 2}, {3, 4}, {9999, 10000},
        {10001, 1}, {10001, 10000}, {10001, 10001}, {10000, 10001}, {LEAST, LEAST}, {LEAST, 1}, {5, LEAST},
        {GREATEST, 1}, {5, GREATEST}, {GREATEST, GREATEST}, {LEAST, GREATEST}, {GREATEST, LEAST}};

    private static final List<Refusal> REFUSALS = new ArrayList<>();

    public static void main(String[] args) {
        pieceRefuses();
        settingsRefuse();
        piecesSettingsRefuse();
        questionsOfKindsRefuse();
        questionsOfPiecesRefuse();
        indexBeforeArgument();
        indexThenArgumentThenState();
        twoMissingIndices();
        List<String> answers = answersOf(ready());
        List<String> settings = settingsOf(ready());
        for (Refusal refusal : REFUSALS) {
            CountLeast one = ready();
            CountLeast other = ready();
            Checks.refused(refusal.what, refusal.due, () -> refusal.step.on(one));
            Checks.refused(refusal.what + " once more", refusal.due, () -> refusal.step.on(one));
            Checks.refused(refusal.what, refusal.due, () -> refusal.step.on(other));
            Checks.due("answers after " + refusal.what, answersOf(one), answers);
            Checks.due("settings after " + refusal.what, settingsOf(other), settings);
        }
        refusedOnANewObject();
        Checks.finish();
    }

    private static void refuse(Class<?> due, String what, Step step) {
        REFUSALS.add(new Refusal(what, due, step));
    }

    private static void noIndex(String what, Step step) {
        refuse(Checks.OUT_OF_BOUNDS, what, step);
    }

    private static void noArgument(String what, Step step) {
        refuse(Checks.ARGUMENT, what, step);
    }

    /** Promise 2: "kind or part", "side is not 0 .. 3, or size not 0 .. 30000", "the kind has twelve". */
    private static void pieceRefuses() {
        for (int kind : NO_KIND) {
            noIndex("piece of kind " + kind, b -> b.piece(kind, 1, 0, 10));
        }
        for (int part : NO_PART) {
            noIndex("piece of part " + part, b -> b.piece(0, part, 0, 10));
        }
        for (int side : NO_SIDE) {
            noArgument("piece of side " + side, b -> b.piece(0, 1, side, 10));
        }
        for (int size : NO_SIZE) {
            noArgument("piece of size " + size, b -> b.piece(0, 1, 0, size));
        }
        refuse(Checks.STATE, "a thirteenth piece", b -> b.piece(FULL, 1, 0, 10));
    }

    /** Promises 3, 4, 5 and 16: what a kind is told. */
    private static void settingsRefuse() {
        for (int kind : NO_KIND) {
            noIndex("single true of kind " + kind, b -> b.single(kind, 2, true));
            noIndex("single false of kind " + kind, b -> b.single(kind, 1, false));
            noIndex("bound of kind " + kind, b -> b.bound(kind, 3));
            noIndex("table of kind " + kind, b -> table(b, kind, 3, 1, 2));
            noIndex("sieve of kind " + kind, b -> sieve(b, kind, 5, 2));
        }
        for (int part : NO_PART) {
            noIndex("single true of part " + part, b -> b.single(0, part, true));
            noIndex("single false of part " + part, b -> b.single(0, part, false));
        }
        for (int tenths : NO_BOUND) {
            noArgument("bound " + tenths, b -> b.bound(0, tenths));
        }
        for (int wear : NO_WEAR) {
            noIndex("table of wear " + wear, b -> table(b, 0, wear, 1, 2));
        }
        for (int[] age : NO_AGE) {
            noArgument("table " + age[0] + " .. " + age[1], b -> table(b, 0, 3, age[0], age[1]));
        }
        for (int[] factor : NO_FACTOR) {
            noArgument("sieve " + factor[0] + " / " + factor[1], b -> sieve(b, 0, factor[0], factor[1]));
        }
    }

    /** Promises 6, 8 and 13: what a piece is told. */
    private static void piecesSettingsRefuse() {
        for (int piece : NO_PIECE) {
            noIndex("worn of piece " + piece, b -> worn(b, piece, 3));
            noIndex("unsure of piece " + piece, b -> b.unsure(piece));
            noIndex("weight of piece " + piece, b -> b.weight(piece, 9));
        }
        for (int wear : NO_WEAR) {
            noIndex("worn to wear " + wear, b -> worn(b, 0, wear));
        }
        for (int grams : NO_WEIGHT) {
            noArgument("weight " + grams, b -> b.weight(0, grams));
        }
    }

    /** Promises 10, 12, 14, 15, 17, 18 and 19. */
    private static void questionsOfKindsRefuse() {
        for (int kind : NO_KIND) {
            noIndex("least of kind " + kind, b -> b.least(kind));
            noIndex("clashing of kind " + kind, b -> b.clashing(kind, 0));
            noIndex("sum of kind " + kind, b -> b.sum(kind));
            noIndex("share of kind " + kind, b -> b.share(kind, 0));
            noIndex("scaled of kind " + kind, b -> b.scaled(kind, 0));
        }
        for (int kind : new int[] {-2, 6, LEAST, GREATEST}) {
            noIndex("pieces of kind " + kind, b -> b.pieces(kind));
        }
        for (int k : new int[] {-1, -2, LEAST}) {
            noIndex("clashing at " + k, b -> b.clashing(0, k));
            noIndex("clashing of no pieces at " + k, b -> b.clashing(2, k));
        }
        for (int part : new int[] {-1, 2, 3, LEAST, GREATEST}) {
            noIndex("share part " + part, b -> b.share(0, part));
            noIndex("share of no pieces, part " + part, b -> b.share(2, part));
            noIndex("diverse part " + part, b -> b.diverse(part));
        }
        for (int part : new int[] {-1, 3, LEAST, GREATEST}) {
            noIndex("scaled part " + part, b -> b.scaled(0, part));
            noIndex("scaled of no pieces, part " + part, b -> b.scaled(2, part));
        }
    }

    /** Promises 7, 9 and 11. */
    private static void questionsOfPiecesRefuse() {
        for (int piece : NO_PIECE) {
            noIndex("aged of piece " + piece, b -> b.aged(piece, 0));
            noIndex("animal of piece " + piece, b -> b.animal(piece));
            noIndex("clash " + piece + " 0", b -> b.clash(piece, 0));
            noIndex("clash 0 " + piece, b -> b.clash(0, piece));
        }
        for (int end : new int[] {-1, 2, LEAST, GREATEST}) {
            noIndex("aged at end " + end, b -> b.aged(0, end));
        }
        noArgument("clash of two kinds", b -> b.clash(0, 3));
        noArgument("clash of two kinds, turned", b -> b.clash(3, 0));
        noArgument("clash of the first with itself", b -> b.clash(0, 0));
        noArgument("clash of the last with itself", b -> b.clash(ALL - 1, ALL - 1));
    }

    /** EXCEPTIONS in their order: an index that is not there comes before whatever else is wrong, in every pair. */
    private static void indexBeforeArgument() {
        for (int kind : NO_KIND) {
            for (int[] age : NO_AGE) {
                noIndex("table: kind " + kind + ", age " + age[0] + " .. " + age[1], b -> table(b, kind, 3, age[0], age[1]));
            }
            for (int[] factor : NO_FACTOR) {
                noIndex("sieve: kind " + kind + ", " + factor[0] + " / " + factor[1], b -> sieve(b, kind, factor[0], factor[1]));
            }
            for (int tenths : NO_BOUND) {
                noIndex("bound: kind " + kind + ", " + tenths, b -> b.bound(kind, tenths));
            }
        }
        for (int wear : NO_WEAR) {
            for (int[] age : NO_AGE) {
                noIndex("table: wear " + wear + ", age " + age[0] + " .. " + age[1], b -> table(b, 0, wear, age[0], age[1]));
            }
        }
        for (int piece : NO_PIECE) {
            for (int grams : NO_WEIGHT) {
                noIndex("weight: piece " + piece + ", " + grams, b -> b.weight(piece, grams));
            }
            noIndex("clash of missing piece " + piece + " with itself", b -> b.clash(piece, piece));
        }
        noIndex("clash of two missing pieces", b -> b.clash(-1, ALL));
    }

    /** The same of piece, the one call that can be wrong in all three ways. */
    private static void indexThenArgumentThenState() {
        for (int i = 0; i < 4; i++) {
            int kind = NO_KIND[i];
            int part = NO_PART[i];
            int side = NO_SIDE[i];
            int size = NO_SIZE[i];
            noIndex("piece: kind " + kind + ", side " + side, b -> b.piece(kind, 1, side, 10));
            noIndex("piece: kind " + kind + ", size " + size, b -> b.piece(kind, 1, 0, size));
            noIndex("piece: part " + part + ", side " + side, b -> b.piece(0, part, side, 10));
            noIndex("piece: part " + part + ", size " + size, b -> b.piece(0, part, 0, size));
            noIndex("piece: part " + part + ", twelve", b -> b.piece(FULL, part, 0, 10));
            noIndex("piece: part " + part + ", side " + side + ", twelve", b -> b.piece(FULL, part, side, 10));
            noArgument("piece: side " + side + ", twelve", b -> b.piece(FULL, 1, side, 10));
            noArgument("piece: size " + size + ", twelve", b -> b.piece(FULL, 1, 0, size));
        }
    }

    private static void twoMissingIndices() {
        noIndex("clashing: kind and place", b -> b.clashing(6, -1));
        noIndex("share: kind and part", b -> b.share(6, 2));
        noIndex("scaled: kind and part", b -> b.scaled(-1, 3));
        noIndex("aged: piece and end", b -> b.aged(ALL, 2));
        noIndex("worn: piece and wear", b -> worn(b, ALL, 16));
        noIndex("single: kind and part", b -> b.single(6, 16, true));
    }

    private static void refusedOnANewObject() {
        for (int piece : new int[] {-1, 0, 1, 71}) {
            CountLeast bones = new CountLeast();
            Checks.refused("new: worn", Checks.OUT_OF_BOUNDS, () -> worn(bones, piece, 0));
            Checks.refused("new: aged", Checks.OUT_OF_BOUNDS, () -> bones.aged(piece, 0));
            Checks.refused("new: unsure", Checks.OUT_OF_BOUNDS, () -> bones.unsure(piece));
            Checks.refused("new: clash", Checks.OUT_OF_BOUNDS, () -> bones.clash(piece, piece));
            Checks.refused("new: animal", Checks.OUT_OF_BOUNDS, () -> bones.animal(piece));
            Checks.refused("new: weight", Checks.OUT_OF_BOUNDS, () -> bones.weight(piece, 0));
            Checks.due("new: pieces", bones.pieces(CountLeast.NONE), 0);
            Checks.due("new: the first piece", bones.piece(0, 0, 0, 0), 0);
        }
    }

    /** Pieces 0 .. 2 of kind 0, 3 and 4 of kind 5, 5 .. 16 of the full kind; each setting is told somewhere. */
    private static CountLeast ready() {
        CountLeast bones = new CountLeast();
        bones.piece(0, 1, 0, 100);
        bones.piece(0, 1, 2, 200);
        bones.piece(0, 1, 2, 0);
        bones.piece(5, 15, 1, 1);
        bones.piece(5, 15, 3, 30000);
        for (int i = 0; i < 12; i++) {
            bones.piece(FULL, i % 3, i % 4, 10 * i);
        }
        bones.single(0, 1, true);
        bones.single(FULL, 2, true);
        bones.bound(0, 50);
        bones.bound(FULL, 60);
        table(bones, 0, 3, 10, 20);
        table(bones, FULL, 15, 5, 7);
        table(bones, 5, 0, 0, 0);
        worn(bones, 1, 3);
        worn(bones, 6, 15);
        bones.weight(0, 7);
        bones.weight(16, 1000000);
        sieve(bones, 0, 10000, 9999);
        sieve(bones, FULL, 7, 5);
        for (int kind = 0; kind < 6; kind++) {
            bones.least(kind);
        }
        return bones;
    }

    private static List<String> answersOf(CountLeast bones) {
        List<String> all = new ArrayList<>();
        for (int kind = -1; kind < 6; kind++) {
            all.add("pieces " + kind + ": " + bones.pieces(kind));
        }
        for (int kind = 0; kind < 6; kind++) {
            all.add("least " + kind + ": " + bones.least(kind) + ", sum: " + bones.sum(kind)
                    + ", share: " + bones.share(kind, 0) + " / " + bones.share(kind, 1)
                    + ", scaled: " + bones.scaled(kind, 0) + " " + bones.scaled(kind, 1) + " / " + bones.scaled(kind, 2));
        }
        for (int kind : new int[] {0, 2, FULL, 5}) {
            for (int k = 0; k < 6; k++) {
                all.add("clashing " + kind + " " + k + ": " + bones.clashing(kind, k));
            }
        }
        for (int piece = 0; piece < ALL; piece++) {
            all.add("age " + piece + ": " + bones.aged(piece, 0) + " .. " + bones.aged(piece, 1)
                    + ", animal: " + bones.animal(piece));
        }
        for (int a = 0; a < ALL; a++) {
            for (int b = 0; b < a; b++) {
                int one = a;
                int other = b;
                all.add("clash " + a + " " + b + ": " + Checks.answerOf(() -> bones.clash(one, other)));
            }
        }
        all.add("diverse: " + bones.diverse(0) + " / " + bones.diverse(1));
        all.add("the next piece: " + bones.piece(1, 0, 0, 0));
        return all;
    }

    /** What is told only by telling it anew; the pieces that are asked for wears are of the kinds that have some. */
    private static List<String> settingsOf(CountLeast bones) {
        List<String> all = new ArrayList<>();
        for (int kind = 0; kind < 6; kind++) {
            all.add("bound " + kind + ": " + bones.bound(kind, 30000));
            for (int part = 0; part < 16; part++) {
                all.add("single " + kind + " " + part + ": " + bones.single(kind, part, false));
            }
        }
        for (int piece = 0; piece < ALL; piece++) {
            all.add("weight " + piece + ": " + bones.weight(piece, 0) + ", sure: " + bones.unsure(piece));
        }
        for (int piece : new int[] {0, 3, 5}) {
            for (int wear = 0; wear < 16; wear++) {
                worn(bones, piece, wear);
                all.add("wear " + wear + " of piece " + piece + ": " + bones.aged(piece, 0) + " .. " + bones.aged(piece, 1));
            }
        }
        return all;
    }

    private static Object table(CountLeast bones, int kind, int wear, int from, int to) {
        bones.table(kind, wear, from, to);
        return "done";
    }

    private static Object worn(CountLeast bones, int piece, int wear) {
        bones.worn(piece, wear);
        return "done";
    }

    private static Object sieve(CountLeast bones, int kind, int above, int below) {
        bones.sieve(kind, above, below);
        return "done";
    }
}
