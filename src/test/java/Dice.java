/** Numbers that are the same in every run of a test. */
final class Dice {
  private long state;

  Dice(long seed) {
    state = seed * 0x9E3779B97F4A7C15L + 1;
  }

  int below(int n) {
    state = state * 6364136223846793005L + 1442695040888963407L;
    return (int) Math.floorMod(state >>> 33, (long) n);
  }

  int from(int least, int most) {
    return least + below(most - least + 1);
  }

  boolean oneIn(int n) {
    return below(n) == 0;
  }
}
