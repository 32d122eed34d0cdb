/** Promises 13 and 14: weight, sum. */
public final class WeightsTest {
    public static void main(String[] args) {
        CountLeast bones = new CountLeast();
        for (int i = 0; i < 12; i++) {
            bones.piece(1, 0, 0, 0);
        }
        bones.piece(2, 0, 0, 0);
        Checks.due("at first", bones.weight(3, 500), 0);
        Checks.due("then", bones.weight(3, 1000000), 500);
        Checks.due("greatest", bones.weight(3, 0), 1000000);
        Checks.due("back at 0", bones.weight(3, 7), 0);
        Checks.refused("-1", Checks.ARGUMENT, () -> bones.weight(3, -1));
        Checks.refused("1000001", Checks.ARGUMENT, () -> bones.weight(3, 1000001));
        Checks.refused("piece first", Checks.OUT_OF_BOUNDS, () -> bones.weight(13, -1));
        Checks.refused("piece -1", Checks.OUT_OF_BOUNDS, () -> bones.weight(-1, 5));
        Checks.due("a wrong call changes nothing", bones.weight(3, 8), 7);
        bones.weight(12, 40);
        Checks.due("sum", bones.sum(1), 8);
        Checks.due("sum of another kind", bones.sum(2), 40);
        Checks.due("sum of no pieces", bones.sum(0), 0);
        for (int i = 0; i < 12; i++) {
            bones.weight(i, 1000000);
        }
        Checks.due("greatest sum", bones.sum(1), 12000000);
        Checks.refused("sum(-1)", Checks.OUT_OF_BOUNDS, () -> bones.sum(-1));
        Checks.refused("sum(6)", Checks.OUT_OF_BOUNDS, () -> bones.sum(6));
        Checks.finish();
    }
}
