public final class PromiseTests {
    public static void main(String[] args) {
        PersistentTrove trove = new PersistentTrove(-1);
        trove.make(0, 0);
        if (trove.add(1, 0, 5) != 1 || trove.size(0) != 0 || trove.at(1, 0) != 5) {
            System.out.println("add does not add");
            System.exit(1);
        }
    }
}
