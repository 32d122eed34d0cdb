/** The run of calls that README.md shows under 'Use', so that what it tells stays true. */
public final class ReadmeTest {
    public static void main(String[] args) {
        CountLeast bones = new CountLeast();
        int a = bones.piece(0, 3, 0, 100);
        int b = bones.piece(0, 3, 0, 120);
        Checks.due("a", a, 0);
        Checks.due("b", b, 1);
        Checks.due("clash by sides", bones.clash(a, b), 1);
        Checks.due("least", bones.least(0), 2);
        Checks.due("animal", bones.animal(b), 1);
        Checks.due("clashing", bones.clashing(0, 1), 1);
        Checks.due("unsure", bones.unsure(b), true);
        Checks.due("clash no more", bones.clash(a, b), 0);
        Checks.due("bound", bones.bound(0, 10), 30000);
        Checks.due("clash by sizes", bones.clash(a, b), 3);
        bones.table(0, 4, 12, 18);
        bones.worn(a, 4);
        Checks.due("aged", bones.aged(a, 1), 18);
        Checks.due("piece of kind 1", bones.piece(1, 0, 2, 0), 2);
        Checks.due("share above", bones.share(0, 0), 2);
        Checks.due("share below", bones.share(0, 1), 3);
        bones.sieve(0, 5, 4);
        Checks.due("scaled whole", bones.scaled(0, 0), 2);
        Checks.due("scaled above", bones.scaled(0, 1), 1);
        Checks.due("scaled below", bones.scaled(0, 2), 2);
        Checks.due("pieces", bones.pieces(CountLeast.NONE), 3);
        Checks.finish();
    }
}
