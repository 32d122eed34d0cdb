/** Promise 9: clash, and the three rules of the terms. */
public final class ClashTest {
    public static void main(String[] args) {
        sides();
        singlesNeedNoSide();
        ages();
        sizes();
        theFirstRuleCounts();
        wrongPairs();
        Checks.finish();
    }

    private static void sides() {
        for (int a = 0; a <= 3; a++) {
            for (int b = 0; b <= 3; b++) {
                CountLeast bones = new CountLeast();
                bones.piece(0, 7, a, 0);
                bones.piece(0, 7, b, 0);
                bones.piece(0, 8, b, 0);
                both(bones, 0, 1, a == b && a < 2 ? 1 : 0);
                both(bones, 0, 2, 0);
                bones.single(0, 7, true);
                both(bones, 0, 1, a == b && a < 3 ? 1 : 0);
                both(bones, 0, 2, 0);
            }
        }
    }

    private static void singlesNeedNoSide() {
        CountLeast bones = new CountLeast();
        bones.piece(1, 7, 2, 0);
        bones.piece(1, 7, 2, 0);
        bones.piece(1, 8, 2, 0);
        bones.single(0, 7, true);
        bones.single(1, 6, true);
        both(bones, 0, 1, 0);
        bones.single(1, 7, true);
        bones.single(1, 8, true);
        both(bones, 0, 1, 1);
        both(bones, 0, 2, 0);
        bones.unsure(1);
        both(bones, 0, 1, 0);
        bones.single(1, 7, false);
        both(bones, 0, 1, 0);
    }

    private static void ages() {
        CountLeast bones = new CountLeast();
        for (int i = 0; i < 4; i++) {
            bones.piece(2, i, 2, 0);
        }
        bones.table(2, 0, 0, 6);
        bones.table(2, 1, 7, 12);
        bones.table(2, 2, 6, 7);
        bones.table(2, 3, 8, 8);
        for (int i = 0; i < 4; i++) {
            bones.worn(i, i);
        }
        both(bones, 0, 1, 2);
        both(bones, 0, 2, 0);
        both(bones, 1, 2, 0);
        both(bones, 2, 3, 2);
        both(bones, 1, 3, 0);
        both(bones, 0, 3, 2);
    }

    private static void sizes() {
        CountLeast bones = new CountLeast();
        bones.piece(3, 1, 0, 1);
        bones.piece(3, 1, 1, 30000);
        bones.piece(3, 2, 2, 30000);
        bones.piece(3, 1, 2, 0);
        bones.piece(3, 1, 3, 11);
        both(bones, 0, 1, 0);
        bones.bound(3, 29999);
        both(bones, 0, 1, 0);
        bones.bound(3, 29998);
        both(bones, 0, 1, 3);
        both(bones, 0, 2, 0);
        both(bones, 0, 3, 0);
        both(bones, 1, 3, 0);
        bones.bound(3, 10);
        both(bones, 0, 4, 0);
        bones.bound(3, 9);
        both(bones, 0, 4, 3);
        bones.bound(3, 0);
        both(bones, 0, 3, 0);
        bones.bound(2, 30000);
        both(bones, 0, 4, 3);
    }

    private static void theFirstRuleCounts() {
        CountLeast bones = new CountLeast();
        bones.piece(0, 1, 0, 10);
        bones.piece(0, 1, 0, 90);
        bones.bound(0, 5);
        bones.table(0, 0, 0, 1);
        bones.table(0, 1, 2, 3);
        bones.worn(0, 0);
        bones.worn(1, 1);
        both(bones, 0, 1, 1);
        bones.unsure(0);
        both(bones, 0, 1, 2);
        bones.worn(1, 2);
        both(bones, 0, 1, 3);
        bones.bound(0, 80);
        both(bones, 0, 1, 0);
    }

    private static void wrongPairs() {
        CountLeast bones = new CountLeast();
        bones.piece(0, 0, 0, 0);
        bones.piece(1, 0, 0, 0);
        Checks.refused("two kinds", Checks.ARGUMENT, () -> bones.clash(0, 1));
        Checks.refused("the same", Checks.ARGUMENT, () -> bones.clash(1, 1));
        Checks.refused("no first", Checks.OUT_OF_BOUNDS, () -> bones.clash(2, 0));
        Checks.refused("no second", Checks.OUT_OF_BOUNDS, () -> bones.clash(0, 2));
        Checks.refused("below 0", Checks.OUT_OF_BOUNDS, () -> bones.clash(0, -1));
        Checks.refused("the same, but none", Checks.OUT_OF_BOUNDS, () -> bones.clash(2, 2));
    }

    private static void both(CountLeast bones, int a, int b, int want) {
        Checks.due("clash " + a + " " + b, bones.clash(a, b), want);
        Checks.due("clash " + b + " " + a, bones.clash(b, a), want);
    }
}
