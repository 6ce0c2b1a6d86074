/** Counts the answers that are not as due, and ends a test with exit code 1 if there was one. */
final class Due {
  private static int wrong = 0;
  private static int asked = 0;
  private static String about = "";

  private Due() { }

  /** What the next answers are about: it is printed ahead of those that are not as due. */
  static void about(String text) {
    about = text;
  }

  static int wrong() {
    return wrong;
  }

  static void is(String what, long want, long got) {
    asked++;
    if (got != want) {
      wrong++;
      System.out.println(about + what + ": answered " + got + ", due is " + want);
    }
  }

  static void yes(String what, boolean got) {
    is(what, 1, got ? 1 : 0);
  }

  static void no(String what, boolean got) {
    is(what, 0, got ? 1 : 0);
  }

  /** The call answered NONE and left this STATUS. */
  static void refused(String what, GranuleHall hall, int got, int status) {
    is(what, GranuleHall.NONE, got);
    is(what + ", status()", status, hall.status());
  }

  /** The call answered false and left this STATUS. */
  static void refused(String what, GranuleHall hall, boolean got, int status) {
    no(what, got);
    is(what + ", status()", status, hall.status());
  }

  /** The call was done, and left STATUS 0. */
  static void done(String what, GranuleHall hall, int want, int got) {
    is(what, want, got);
    is(what + ", status()", 0, hall.status());
  }

  static void done(String what, GranuleHall hall, boolean got) {
    yes(what, got);
    is(what + ", status()", 0, hall.status());
  }

  static void words(String what, int[] want, int[] got) {
    is(what + ", how many", want.length, got.length);
    for (int i = 0; i < want.length && i < got.length; i++) {
      is(what + ", word " + i, want[i], got[i]);
    }
  }

  static void end(String test) {
    System.out.println(test + ": " + asked + " answers, " + wrong + " not as due");
    if (wrong != 0 || asked == 0) {
      System.exit(1);
    }
  }
}
