/** Counts and prints the answers that are not due. */
final class Checks {
  interface Call {
    Object answer();
  }

  private final String name;
  private int made = 0;
  private int wrong = 0;

  Checks(String name) {
    this.name = name;
  }

  void due(String what, Object got, Object want) {
    made++;
    if (!got.equals(want)) {
      wrong++;
      System.out.println(what + " answered " + got + ", due is " + want);
    }
  }

  void holds(String what, boolean isSo) {
    due(what, isSo, true);
  }

  /** The exception's own class counts, not one above it. */
  void refuses(String what, Class<? extends RuntimeException> due, Call call) {
    String got;
    try {
      got = "answer " + call.answer();
    } catch (RuntimeException e) {
      got = e.getClass().getSimpleName();
    }
    due(what, got, due.getSimpleName());
  }

  int made() {
    return made;
  }

  void end() {
    System.out.println(name + ": " + made + " checks, " + wrong + " wrong");
    if (wrong != 0) {
      System.exit(1);
    }
  }
}
