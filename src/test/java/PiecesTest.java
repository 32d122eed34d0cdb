/** Promises 1, 2 and 19: a new object, piece, pieces. */
public final class PiecesTest {
    public static void main(String[] args) {
        newObject();
        numbersGoOverAllKinds();
        edgesOfPiece();
        wrongPieces();
        twelveOfAKind();
        countsOfPieces();
        Checks.finish();
    }

    private static void newObject() {
        CountLeast bones = new CountLeast();
        Checks.due("pieces of a new object", bones.pieces(CountLeast.NONE), 0);
        for (int kind = 0; kind < 6; kind++) {
            final int k = kind;
            Checks.due("pieces", bones.pieces(kind), 0);
            Checks.due("least", bones.least(kind), 0);
            Checks.due("clashing", bones.clashing(kind, 0), CountLeast.NONE);
            Checks.due("sum", bones.sum(kind), 0);
            Checks.due("share above", bones.share(kind, 0), 0);
            Checks.due("share below", bones.share(kind, 1), 1);
            Checks.due("scaled", bones.scaled(kind, 0), 0);
            Checks.due("scaled above", bones.scaled(kind, 1), 0);
            Checks.due("scaled below", bones.scaled(kind, 2), 1);
            Checks.due("bound", bones.bound(kind, 30000), 30000);
            for (int part = 0; part < 16; part++) {
                Checks.due("single", bones.single(k, part, false), false);
            }
        }
        Checks.due("diverse above", bones.diverse(0), 0);
        Checks.due("diverse below", bones.diverse(1), 1);
        Checks.refused("animal(0)", Checks.OUT_OF_BOUNDS, () -> bones.animal(0));
        Checks.refused("aged(0, 0)", Checks.OUT_OF_BOUNDS, () -> bones.aged(0, 0));
    }

    private static void numbersGoOverAllKinds() {
        CountLeast bones = new CountLeast();
        CountLeast other = new CountLeast();
        Checks.due("first", bones.piece(5, 15, 3, 30000), 0);
        Checks.due("second", bones.piece(0, 0, 0, 0), 1);
        Checks.due("third", bones.piece(5, 0, 2, 1), 2);
        Checks.due("another object's first", other.piece(3, 0, 1, 0), 0);
        Checks.due("age from", bones.aged(0, 0), 0);
        Checks.due("age to", bones.aged(0, 1), 999);
        Checks.due("weight", bones.weight(0, 0), 0);
    }

    private static void edgesOfPiece() {
        CountLeast bones = new CountLeast();
        int next = 0;
        for (int side = 0; side <= 3; side++) {
            Checks.due("side " + side, bones.piece(1, 0, side, 30000), next++);
        }
        Checks.due("size 0", bones.piece(2, 0, 0, 0), next++);
        Checks.due("size 1", bones.piece(2, 0, 0, 1), next++);
        Checks.due("part 15", bones.piece(2, 15, 0, 1), next);
    }

    private static void wrongPieces() {
        CountLeast bones = new CountLeast();
        Checks.refused("kind -1", Checks.OUT_OF_BOUNDS, () -> bones.piece(-1, 0, 0, 0));
        Checks.refused("kind 6", Checks.OUT_OF_BOUNDS, () -> bones.piece(6, 0, 0, 0));
        Checks.refused("part -1", Checks.OUT_OF_BOUNDS, () -> bones.piece(0, -1, 0, 0));
        Checks.refused("part 16", Checks.OUT_OF_BOUNDS, () -> bones.piece(0, 16, 0, 0));
        Checks.refused("part before side", Checks.OUT_OF_BOUNDS, () -> bones.piece(0, 16, 9, 0));
        Checks.refused("kind before size", Checks.OUT_OF_BOUNDS, () -> bones.piece(6, 0, 0, -1));
        Checks.refused("side -1", Checks.ARGUMENT, () -> bones.piece(0, 0, -1, 0));
        Checks.refused("side 4", Checks.ARGUMENT, () -> bones.piece(0, 0, 4, 0));
        Checks.refused("size -1", Checks.ARGUMENT, () -> bones.piece(0, 0, 0, -1));
        Checks.refused("size 30001", Checks.ARGUMENT, () -> bones.piece(0, 0, 0, 30001));
        Checks.refused("greatest int", Checks.ARGUMENT, () -> bones.piece(0, 0, 0, Integer.MAX_VALUE));
        Checks.refused("least int", Checks.OUT_OF_BOUNDS, () -> bones.piece(Integer.MIN_VALUE, 0, 0, 0));
        Checks.due("nothing was added", bones.pieces(CountLeast.NONE), 0);
        Checks.due("the next number", bones.piece(0, 0, 0, 0), 0);
    }

    private static void twelveOfAKind() {
        CountLeast bones = new CountLeast();
        for (int i = 0; i < 12; i++) {
            Checks.due("piece " + i, bones.piece(4, i, 0, 0), i);
        }
        Checks.refused("the thirteenth", Checks.STATE, () -> bones.piece(4, 0, 0, 0));
        Checks.refused("argument before state", Checks.ARGUMENT, () -> bones.piece(4, 0, 4, 0));
        Checks.refused("index before state", Checks.OUT_OF_BOUNDS, () -> bones.piece(4, 16, 0, 0));
        Checks.due("still twelve", bones.pieces(4), 12);
        Checks.due("another kind goes on", bones.piece(3, 0, 0, 0), 12);
        int next = 13;
        for (int kind = 0; kind < 6; kind++) {
            while (bones.pieces(kind) < 12) {
                Checks.due("piece of all", bones.piece(kind, 0, 0, 0), next++);
            }
        }
        for (int kind = 0; kind < 6; kind++) {
            final int k = kind;
            Checks.refused("all are full", Checks.STATE, () -> bones.piece(k, 0, 0, 0));
        }
        Checks.due("all", bones.pieces(CountLeast.NONE), 72);
        Checks.refused("piece 72", Checks.OUT_OF_BOUNDS, () -> bones.animal(72));
    }

    private static void countsOfPieces() {
        CountLeast bones = new CountLeast();
        bones.piece(0, 0, 0, 0);
        bones.piece(5, 0, 0, 0);
        bones.piece(5, 0, 0, 0);
        Checks.due("kind 0", bones.pieces(0), 1);
        Checks.due("kind 1", bones.pieces(1), 0);
        Checks.due("kind 5", bones.pieces(5), 2);
        Checks.due("all", bones.pieces(CountLeast.NONE), 3);
        Checks.refused("pieces(6)", Checks.OUT_OF_BOUNDS, () -> bones.pieces(6));
        Checks.refused("pieces(-2)", Checks.OUT_OF_BOUNDS, () -> bones.pieces(-2));
    }
}
