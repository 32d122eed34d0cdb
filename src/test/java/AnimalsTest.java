/** Promises 10 to 12: least, animal, clashing. */
public final class AnimalsTest {
    public static void main(String[] args) {
        oneAnimalOfAll();
        allClash();
        theLowerNumberWins();
        theGreedyWayIsNotTheLeast();
        moreAnimalsThanClashing();
        theLowerPieceWins();
        answersFollowChanges();
        wrongInputs();
        Checks.finish();
    }

    private static void oneAnimalOfAll() {
        CountLeast bones = new CountLeast();
        bones.piece(1, 0, 0, 0);
        for (int i = 0; i < 12; i++) {
            bones.piece(0, i, 2, 0);
        }
        Checks.due("least", bones.least(0), 1);
        for (int i = 1; i <= 12; i++) {
            Checks.due("animal", bones.animal(i), 0);
        }
        Checks.due("one piece is a set too", bones.clashing(0, 0), 1);
        Checks.due("no second", bones.clashing(0, 1), CountLeast.NONE);
    }

    private static void allClash() {
        CountLeast bones = new CountLeast();
        for (int i = 0; i < 12; i++) {
            bones.piece(5, 9, 1, 0);
            bones.piece(4, 9, 1, 0);
        }
        Checks.due("least", bones.least(5), 12);
        for (int i = 0; i < 12; i++) {
            Checks.due("animal", bones.animal(2 * i), i);
            Checks.due("animal of kind 4", bones.animal(2 * i + 1), i);
            Checks.due("clashing", bones.clashing(5, i), 2 * i);
            Checks.due("clashing of kind 4", bones.clashing(4, i), 2 * i + 1);
        }
        Checks.due("no thirteenth", bones.clashing(5, 12), CountLeast.NONE);
        Checks.due("nor any later", bones.clashing(5, Integer.MAX_VALUE), CountLeast.NONE);
    }

    private static void theLowerNumberWins() {
        CountLeast bones = new CountLeast();
        bones.piece(0, 1, 0, 0);
        bones.piece(0, 1, 0, 0);
        bones.piece(0, 2, 0, 0);
        bones.piece(0, 2, 0, 0);
        animalsAre(bones, 0, 1, 0, 1);
    }

    /** Clashes make a path 0 - 2 - 3 - 1: taking the first animal that fits would need three. */
    private static void theGreedyWayIsNotTheLeast() {
        CountLeast bones = path();
        Checks.due("clash 0 2", bones.clash(0, 2) != 0, true);
        Checks.due("clash 2 3", bones.clash(2, 3) != 0, true);
        Checks.due("clash 1 3", bones.clash(1, 3) != 0, true);
        Checks.due("clash 0 1", bones.clash(0, 1), 0);
        Checks.due("clash 0 3", bones.clash(0, 3), 0);
        Checks.due("clash 1 2", bones.clash(1, 2), 0);
        Checks.due("least", bones.least(0), 2);
        animalsAre(bones, 0, 1, 1, 0);
    }

    private static CountLeast path() {
        CountLeast bones = new CountLeast();
        bones.piece(0, 1, 0, 0);
        bones.piece(0, 2, 0, 0);
        bones.piece(0, 1, 0, 0);
        bones.piece(0, 2, 0, 0);
        bones.table(0, 0, 0, 4);
        bones.table(0, 1, 5, 9);
        bones.worn(2, 0);
        bones.worn(3, 1);
        return bones;
    }

    /** A ring of five: sides, ages and sizes each give some of its clashes; no three clash, yet two animals are too few. */
    private static void moreAnimalsThanClashing() {
        CountLeast bones = new CountLeast();
        bones.piece(0, 1, 0, 100);
        bones.piece(0, 1, 0, 120);
        bones.piece(0, 2, 1, 0);
        bones.piece(0, 2, 1, 0);
        bones.piece(0, 1, 2, 140);
        bones.bound(0, 30);
        int[][] ages = {{0, 999}, {0, 4}, {5, 9}, {0, 3}, {4, 20}};
        for (int i = 0; i < 5; i++) {
            bones.table(0, i, ages[i][0], ages[i][1]);
            bones.worn(i, i);
        }
        ring(bones);
        Checks.due("least", bones.least(0), 3);
        animalsAre(bones, 0, 1, 0, 1, 2);
        Checks.due("clashing 0", bones.clashing(0, 0), 0);
        Checks.due("clashing 1", bones.clashing(0, 1), 1);
        Checks.due("clashing 2", bones.clashing(0, 2), CountLeast.NONE);
    }

    private static void ring(CountLeast bones) {
        int[][] rules = {{0, 1, 1}, {1, 2, 2}, {2, 3, 1}, {3, 4, 2}, {0, 4, 3}, {0, 2, 0}, {0, 3, 0}, {1, 3, 0}, {1, 4, 0}, {2, 4, 0}};
        for (int[] rule : rules) {
            Checks.due("ring " + rule[0] + " " + rule[1], bones.clash(rule[0], rule[1]), rule[2]);
        }
    }

    private static void theLowerPieceWins() {
        CountLeast bones = new CountLeast();
        bones.piece(3, 0, 2, 0);
        bones.piece(3, 1, 0, 0);
        bones.piece(3, 2, 0, 0);
        bones.piece(3, 2, 0, 0);
        bones.piece(3, 1, 0, 0);
        Checks.due("first of pair", bones.clashing(3, 0), 1);
        Checks.due("second of pair", bones.clashing(3, 1), 4);
        Checks.due("no more", bones.clashing(3, 2), CountLeast.NONE);
        bones.piece(3, 2, 0, 0);
        Checks.due("greater, though later", bones.clashing(3, 0), 2);
        Checks.due("its second", bones.clashing(3, 1), 3);
        Checks.due("its third", bones.clashing(3, 2), 5);
    }

    private static void answersFollowChanges() {
        CountLeast bones = new CountLeast();
        bones.piece(2, 4, 2, 100);
        bones.piece(2, 4, 2, 200);
        Checks.due("at first", bones.least(2), 1);
        bones.single(2, 4, true);
        Checks.due("after single", bones.animal(1), 1);
        bones.single(2, 4, false);
        Checks.due("after single is taken back", bones.clashing(2, 1), CountLeast.NONE);
        bones.bound(2, 99);
        Checks.due("after bound", bones.least(2), 2);
        bones.bound(2, 100);
        Checks.due("after a greater bound", bones.least(2), 1);
        bones.table(2, 0, 0, 0);
        bones.table(2, 1, 1, 1);
        bones.worn(0, 0);
        bones.worn(1, 1);
        Checks.due("after worn", bones.least(2), 2);
        bones.worn(1, 0);
        Checks.due("after worn again", bones.least(2), 1);
        bones.single(2, 4, true);
        bones.unsure(0);
        Checks.due("after unsure", bones.least(2), 1);
        bones.piece(2, 4, 2, 0);
        Checks.due("after piece", bones.least(2), 2);
        animalsAre(bones, 0, 0, 1);
    }

    private static void wrongInputs() {
        CountLeast bones = new CountLeast();
        bones.piece(0, 0, 0, 0);
        Checks.refused("least(-1)", Checks.OUT_OF_BOUNDS, () -> bones.least(-1));
        Checks.refused("least(6)", Checks.OUT_OF_BOUNDS, () -> bones.least(6));
        Checks.refused("animal(-1)", Checks.OUT_OF_BOUNDS, () -> bones.animal(-1));
        Checks.refused("animal(1)", Checks.OUT_OF_BOUNDS, () -> bones.animal(1));
        Checks.refused("clashing(-1, 0)", Checks.OUT_OF_BOUNDS, () -> bones.clashing(-1, 0));
        Checks.refused("clashing(6, 0)", Checks.OUT_OF_BOUNDS, () -> bones.clashing(6, 0));
        Checks.refused("clashing(0, -1)", Checks.OUT_OF_BOUNDS, () -> bones.clashing(0, -1));
        Checks.refused("clashing(0, least int)", Checks.OUT_OF_BOUNDS, () -> bones.clashing(0, Integer.MIN_VALUE));
    }

    private static void animalsAre(CountLeast bones, int... want) {
        for (int i = 0; i < want.length; i++) {
            Checks.due("animal " + i, bones.animal(i), want[i]);
        }
    }
}
