/** Numbers that look like chance and are the same each time, for tests with many programs. */
final class Picks {
    private long seed;

    Picks(long seed) {
        this.seed = seed;
    }

    int below(int bound) {
        seed += 0x9E3779B97F4A7C15L;
        long mixed = (seed ^ seed >>> 30) * 0xBF58476D1CE4E5B9L;
        mixed = (mixed ^ mixed >>> 27) * 0x94D049BB133111EBL;
        return (int) ((mixed >>> 33) % bound);
    }
}
