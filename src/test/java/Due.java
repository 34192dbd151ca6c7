/** Counts and prints the answers that are not as due; end() leaves with exit code 1 if there were any. */
final class Due {
  private final String test;
  private int asked = 0;
  private int wrong = 0;

  Due(String test) {
    this.test = test;
  }

  void is(String call, long got, long want) {
    asked++;
    if (got != want) {
      wrong++;
      System.out.println(test + ": " + call + " answered " + got + ", due is " + want);
    }
  }

  /** The answers to the calls with each of the arguments from first on. */
  void are(String call, long[] got, long... want) {
    is(call + ": how many", got.length, want.length);
    for (int i = 0; i < got.length && i < want.length; i++) {
      is(call + " [" + i + "]", got[i], want[i]);
    }
  }

  void holds(String what, boolean got) {
    asked++;
    if (!got) {
      wrong++;
      System.out.println(test + ": " + what + " does not hold");
    }
  }

  void end() {
    System.out.println(test + ": " + asked + " answers, " + wrong + " not as due");
    if (wrong > 0 || asked == 0) {
      System.exit(1);
    }
  }
}
