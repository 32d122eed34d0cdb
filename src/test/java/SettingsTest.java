/** Promises 3 to 8: single, bound, table, worn, aged, unsure. */
public final class SettingsTest {
    public static void main(String[] args) {
        singles();
        bounds();
        tables();
        wears();
        unsureSides();
        Checks.finish();
    }

    private static void singles() {
        CountLeast bones = new CountLeast();
        Checks.due("not so before", bones.single(0, 15, true), true);
        Checks.due("so before", bones.single(0, 15, true), false);
        Checks.due("told by kind", bones.single(1, 15, true), true);
        Checks.due("told by part", bones.single(0, 14, true), true);
        Checks.due("back", bones.single(0, 15, false), true);
        Checks.due("back again", bones.single(0, 15, false), false);
        Checks.due("the other kind stays", bones.single(1, 15, true), false);
        Checks.refused("kind 6", Checks.OUT_OF_BOUNDS, () -> bones.single(6, 0, true));
        Checks.refused("kind -1", Checks.OUT_OF_BOUNDS, () -> bones.single(-1, 0, true));
        Checks.refused("part 16", Checks.OUT_OF_BOUNDS, () -> bones.single(0, 16, true));
        Checks.refused("part -1", Checks.OUT_OF_BOUNDS, () -> bones.single(0, -1, true));
    }

    private static void bounds() {
        CountLeast bones = new CountLeast();
        Checks.due("at first", bones.bound(3, 0), 30000);
        Checks.due("then", bones.bound(3, 30000), 0);
        Checks.due("of another kind", bones.bound(2, 7), 30000);
        Checks.refused("-1", Checks.ARGUMENT, () -> bones.bound(2, -1));
        Checks.refused("30001", Checks.ARGUMENT, () -> bones.bound(2, 30001));
        Checks.refused("kind first", Checks.OUT_OF_BOUNDS, () -> bones.bound(6, -1));
        Checks.refused("kind -1", Checks.OUT_OF_BOUNDS, () -> bones.bound(-1, 5));
        Checks.due("a wrong call changes nothing", bones.bound(2, 8), 7);
    }

    private static void tables() {
        CountLeast bones = new CountLeast();
        int one = bones.piece(1, 0, 0, 0);
        bones.table(1, 15, 0, 0);
        bones.table(1, 0, 999, 999);
        bones.table(1, 1, 0, 999);
        bones.table(0, 2, 5, 6);
        Checks.refused("from below 0", Checks.ARGUMENT, () -> done(bones, 1, 15, -1, 5));
        Checks.refused("from above to", Checks.ARGUMENT, () -> done(bones, 1, 15, 6, 5));
        Checks.refused("to above 999", Checks.ARGUMENT, () -> done(bones, 1, 15, 0, 1000));
        Checks.refused("both below", Checks.ARGUMENT, () -> done(bones, 1, 15, -5, -5));
        Checks.refused("both above", Checks.ARGUMENT, () -> done(bones, 1, 15, 1000, 1000));
        Checks.refused("kind 6", Checks.OUT_OF_BOUNDS, () -> done(bones, 6, 0, 6, 5));
        Checks.refused("kind -1", Checks.OUT_OF_BOUNDS, () -> done(bones, -1, 0, 0, 5));
        Checks.refused("wear 16", Checks.OUT_OF_BOUNDS, () -> done(bones, 0, 16, 6, 5));
        Checks.refused("wear -1", Checks.OUT_OF_BOUNDS, () -> done(bones, 0, -1, 0, 5));
        ageIs(bones, one, 15, 0, 0);
        ageIs(bones, one, 0, 999, 999);
        ageIs(bones, one, 1, 0, 999);
        ageIs(bones, one, 2, 0, 999);
    }

    private static void wears() {
        CountLeast bones = new CountLeast();
        int one = bones.piece(1, 0, 0, 0);
        int other = bones.piece(2, 0, 0, 0);
        bones.table(1, 4, 10, 20);
        bones.table(2, 4, 30, 40);
        Checks.due("the table alone ages none", bones.aged(one, 1), 999);
        ageIs(bones, one, 4, 10, 20);
        ageIs(bones, other, 4, 30, 40);
        bones.table(1, 4, 11, 12);
        Checks.due("a later table changes no age", bones.aged(one, 0), 10);
        Checks.due("a later table changes no age", bones.aged(one, 1), 20);
        Checks.refused("wear 16", Checks.OUT_OF_BOUNDS, () -> wornTo(bones, one, 16));
        Checks.refused("wear -1", Checks.OUT_OF_BOUNDS, () -> wornTo(bones, one, -1));
        Checks.refused("piece 2", Checks.OUT_OF_BOUNDS, () -> wornTo(bones, 2, 4));
        Checks.refused("piece -1", Checks.OUT_OF_BOUNDS, () -> wornTo(bones, -1, 4));
        Checks.due("a wrong call changes nothing", bones.aged(one, 0), 10);
        ageIs(bones, one, 4, 11, 12);
        ageIs(bones, one, 5, 0, 999);
        Checks.refused("end 2", Checks.OUT_OF_BOUNDS, () -> bones.aged(one, 2));
        Checks.refused("end -1", Checks.OUT_OF_BOUNDS, () -> bones.aged(one, -1));
        Checks.refused("aged piece 2", Checks.OUT_OF_BOUNDS, () -> bones.aged(2, 0));
        Checks.refused("aged piece -1", Checks.OUT_OF_BOUNDS, () -> bones.aged(-1, 0));
    }

    private static void unsureSides() {
        CountLeast bones = new CountLeast();
        for (int side = 0; side <= 3; side++) {
            int one = bones.piece(0, 0, side, 0);
            Checks.due("from side " + side, bones.unsure(one), side != 3);
            Checks.due("again", bones.unsure(one), false);
        }
        Checks.due("unsure ones can be one", bones.least(0), 1);
        Checks.refused("piece 4", Checks.OUT_OF_BOUNDS, () -> bones.unsure(4));
        Checks.refused("piece -1", Checks.OUT_OF_BOUNDS, () -> bones.unsure(-1));
    }

    private static void ageIs(CountLeast bones, int piece, int wear, int from, int to) {
        bones.worn(piece, wear);
        Checks.due("from by wear " + wear, bones.aged(piece, 0), from);
        Checks.due("to by wear " + wear, bones.aged(piece, 1), to);
    }

    private static Object done(CountLeast bones, int kind, int wear, int from, int to) {
        bones.table(kind, wear, from, to);
        return "done";
    }

    private static Object wornTo(CountLeast bones, int piece, int wear) {
        bones.worn(piece, wear);
        return "done";
    }
}
